/-! a village as a page of numbers (the model's own form), and what is asked of it -/
abbrev oa_P : Type := Nat → Int32
/-- whether r is angry with p (6: the sea) -/
def an (P : oa_P) (r p : Nat) : Bool := decide (0 < P (48 + (7 * r + p)))
def fr (R P : oa_P) (r : Nat) : Bool := decide (oa_cn (an P r) 7 < R 0)
def fg (P : oa_P) (s : Int32) (r : Nat) : Bool := decide (P (8 * r) = s)
/-- by his sort alone -/
def mi (P : oa_P) (r q : Nat) : Bool :=
  if P (8 * r) = 0 then decide (r = q)
  else if P (8 * r) = 1 then decide (r = q) && decide (P (8 * r + 6) ≤ P (8 * r + 2))
  else if P (8 * r) = 2 then decide (r = q) || decide (P (8 * r + 7) = nI q)
  else if P (8 * r) = 3 then decide (r = q)
  else false
def can (P : oa_P) (p r : Nat) : Bool := !decide (r = p) && !an P r p
def co (R P : oa_P) (r : Nat) : Int32 := if P (8 * r + 3) * P (8 * r + 5) + P (8 * r + 4) < P (8 * r + 3) * R 1 then P (8 * r + 3) * P (8 * r + 5) + P (8 * r + 4) else P (8 * r + 3) * R 1
/-- what a wrong to q is worth, those in m being able -/
def val (R P : oa_P) (q : Nat) (m : Nat → Bool) : Nat → Int32
  | 0 => P (8 * q + 1)
  | k + 1 => if (m k && mi P k q) = true then val R P q m k - co R P k else val R P q m k
theorem val_succ (R P : oa_P) (q : Nat) (m : Nat → Bool) (k : Nat) : val R P q m (k + 1) = if (m k && mi P k q) = true then val R P q m k - co R P k else val R P q m k := rfl
/-- the best choice among the first k: whom, how much -/
def chs (R P : oa_P) (n p : Nat) (m : Nat → Bool) : Nat → Int32 × Int32
  | 0 => (oNO, 0)
  | k + 1 => if k = p then chs R P n p m k else if (chs R P n p m k).2 < val R P k m n then (nI k, val R P k m n) else chs R P n p m k
theorem chs_succ (R P : oa_P) (n p : Nat) (m : Nat → Bool) (k : Nat) : chs R P n p m (k + 1) = if k = p then chs R P n p m k else if (chs R P n p m k).2 < val R P k m n then (nI k, val R P k m n) else chs R P n p m k := rfl
/-- seen as free -/
def sn (R P : oa_P) (r : Nat) : Bool := fr R P r && !fg P 3 r
def abl (R P : oa_P) (p r : Nat) : Bool := fr R P r && can P p r
def abs' (R P : oa_P) (p r : Nat) : Bool := sn R P r && can P p r
theorem val_cong {R P : oa_P} {q : Nat} {m m' : Nat → Bool} : ∀ {k : Nat}, (∀ r, r < k → m r = m' r) → val R P q m k = val R P q m' k
  | 0, _ => rfl
  | k + 1, h => by
    rw [val_succ, val_succ, h k (by omega), val_cong (fun r hr => h r (by omega))]
theorem chs_cong {R P : oa_P} {n p : Nat} {m m' : Nat → Bool} (h : ∀ r, r < n → m r = m' r) : ∀ k, chs R P n p m k = chs R P n p m' k
  | 0 => rfl
  | k + 1 => by
    rw [chs_succ, chs_succ, val_cong h, chs_cong h k]
theorem chs_some (R P : oa_P) (n p : Nat) (m : Nat → Bool) : ∀ k, (chs R P n p m k).1 = oNO ∨ ∃ q, q < k ∧ q ≠ p ∧ (chs R P n p m k).1 = nI q
  | 0 => Or.inl rfl
  | k + 1 => by
    rw [chs_succ]
    rcases chs_some R P n p m k with h | ⟨q, h1, h2, h3⟩
    · by_cases e : k = p
      · rw [if_pos e]; exact Or.inl h
      · rw [if_neg e]
        split
        · exact Or.inr ⟨k, by omega, e, rfl⟩
        · exact Or.inl h
    · by_cases e : k = p
      · rw [if_pos e]; exact Or.inr ⟨q, by omega, h2, h3⟩
      · rw [if_neg e]
        split
        · exact Or.inr ⟨k, by omega, e, rfl⟩
        · exact Or.inr ⟨q, by omega, h2, h3⟩
/-! the class's village V holds traits and rules of the page P -/
def CT (n : Nat) (R P : oa_P) (V : oa_I2) : Prop := n ≤ 6 ∧ V 5 0 = nI n ∧ (∀ k, k < 3 → V 0 k = R k) ∧ (∀ w, w < 8 → ∀ p, p < n → V 1 (w * 6 + p) = P (8 * p + w))
section CTs
variable {n : Nat} {R P : oa_P} {V : oa_I2}
theorem ct_w {w p : Nat} (h : CT n R P V) (hw : w < 8) (hp : p < n) : f_X5_trait V (nI w) (nI p) = some (P (8 * p + w)) := by
  obtain ⟨h1, h2, h3, h4⟩ := h
  unfold f_X5_trait
  simp (disch := (first | omega | assumption | decide)) only [oa_ut, oa_bs, oa_lt, oa_ile, oa_inle, oa_ilt, oa_inlt, oa_ieq, oa_ineq, oa_rd_nI, oa_wr_nI, oa_rd_0, oa_rd_1, oa_wr_0, oa_wr_1, oa_rdL_nI, oa_wrL_nI, oa_bi_if0, oa_bi_if1, oa_zc_bi, oa_if_b0, oa_if_b1, nI_1, nI_add, pk_mul, Nat.add_assoc, Int32.add_zero, Int32.sub_zero, Int32.or_zero, Int32.and_neg_one, va_up_s, va_up_n, upd_s, oa_up2, ite_self, if_true, if_false, oa_10, oa_01, oa_neg4, oa_ifno, oa_l2, oa_l3, oa_l4, oa_l5, oa_l6, oa_l7, oa_l8, oa_l9, oa_l10, oa_l12, oa_l15, oa_l16, oa_l20, oa_l32, oa_l40, oa_l42, oa_l48, oa_l64, oa_l90, oa_l96, oa_l97, oa_l98, oa_l99, oa_l100, oa_l120, oa_l360, oa_l450, oa_l457, oa_l458, oa_l480, oa_l528]
  rw [h4 w hw p hp]
theorem ct_0 {p : Nat} (h : CT n R P V) (hp : p < n) : f_X5_trait V 0 (nI p) = some (P (8 * p)) := ct_w (w := 0) h (by omega) hp
theorem ct_1 {p : Nat} (h : CT n R P V) (hp : p < n) : f_X5_trait V 1 (nI p) = some (P (8 * p + 1)) := ct_w (w := 1) h (by omega) hp
theorem ct_minds {r q : Nat} (h : CT n R P V) (hr : r < n) (hq : q < 2 ^ 31) : f_X5_minds V (nI r) (nI q) = some (oa_bi (mi P r q)) := by
  have h1 := h.1
  unfold f_X5_minds mi
  rw [ct_0 h hr]
  simp only [oa_bs]
  by_cases s0 : P (8 * r) = 0
  · simp only [if_pos s0]
    by_cases e : r = q
    · simp (disch := (first | omega | assumption | decide)) only [oa_ut, oa_bs, oa_lt, oa_ile, oa_inle, oa_ilt, oa_inlt, oa_ieq, oa_ineq, oa_rd_nI, oa_wr_nI, oa_rd_0, oa_rd_1, oa_wr_0, oa_wr_1, oa_rdL_nI, oa_wrL_nI, oa_bi_if0, oa_bi_if1, oa_zc_bi, oa_if_b0, oa_if_b1, nI_1, nI_add, pk_mul, Nat.add_assoc, Int32.add_zero, Int32.sub_zero, Int32.or_zero, Int32.and_neg_one, va_up_s, va_up_n, upd_s, oa_up2, ite_self, if_true, if_false, oa_10, oa_01, oa_neg4, oa_ifno, oa_l2, oa_l3, oa_l4, oa_l5, oa_l6, oa_l7, oa_l8, oa_l9, oa_l10, oa_l12, oa_l15, oa_l16, oa_l20, oa_l32, oa_l40, oa_l42, oa_l48, oa_l64, oa_l90, oa_l96, oa_l97, oa_l98, oa_l99, oa_l100, oa_l120, oa_l360, oa_l450, oa_l457, oa_l458, oa_l480, oa_l528]
      simp [oa_bi, e]
    · simp (disch := (first | omega | assumption | decide)) only [oa_ut, oa_bs, oa_lt, oa_ile, oa_inle, oa_ilt, oa_inlt, oa_ieq, oa_ineq, oa_rd_nI, oa_wr_nI, oa_rd_0, oa_rd_1, oa_wr_0, oa_wr_1, oa_rdL_nI, oa_wrL_nI, oa_bi_if0, oa_bi_if1, oa_zc_bi, oa_if_b0, oa_if_b1, nI_1, nI_add, pk_mul, Nat.add_assoc, Int32.add_zero, Int32.sub_zero, Int32.or_zero, Int32.and_neg_one, va_up_s, va_up_n, upd_s, oa_up2, ite_self, if_true, if_false, oa_10, oa_01, oa_neg4, oa_ifno, oa_l2, oa_l3, oa_l4, oa_l5, oa_l6, oa_l7, oa_l8, oa_l9, oa_l10, oa_l12, oa_l15, oa_l16, oa_l20, oa_l32, oa_l40, oa_l42, oa_l48, oa_l64, oa_l90, oa_l96, oa_l97, oa_l98, oa_l99, oa_l100, oa_l120, oa_l360, oa_l450, oa_l457, oa_l458, oa_l480, oa_l528]
      simp [oa_bi, e]
  by_cases s1 : P (8 * r) = 1
  · simp only [if_neg s0, if_pos s1]
    by_cases e : r = q
    · simp (disch := (first | omega | assumption | decide)) only [ct_w h, oa_ut, oa_bs, oa_lt, oa_ile, oa_inle, oa_ilt, oa_inlt, oa_ieq, oa_ineq, oa_rd_nI, oa_wr_nI, oa_rd_0, oa_rd_1, oa_wr_0, oa_wr_1, oa_rdL_nI, oa_wrL_nI, oa_bi_if0, oa_bi_if1, oa_zc_bi, oa_if_b0, oa_if_b1, nI_1, nI_add, pk_mul, Nat.add_assoc, Int32.add_zero, Int32.sub_zero, Int32.or_zero, Int32.and_neg_one, va_up_s, va_up_n, upd_s, oa_up2, ite_self, if_true, if_false, oa_10, oa_01, oa_neg4, oa_ifno, oa_l2, oa_l3, oa_l4, oa_l5, oa_l6, oa_l7, oa_l8, oa_l9, oa_l10, oa_l12, oa_l15, oa_l16, oa_l20, oa_l32, oa_l40, oa_l42, oa_l48, oa_l64, oa_l90, oa_l96, oa_l97, oa_l98, oa_l99, oa_l100, oa_l120, oa_l360, oa_l450, oa_l457, oa_l458, oa_l480, oa_l528]
      by_cases l : P (8 * r + 2) < P (8 * r + 6)
      · rw [if_pos l]; simp [Int32.not_le.mpr l, oa_bi]
      · rw [if_neg l, decide_eq_true e, decide_eq_true (Int32.not_lt.mp l)]; rfl
    · simp (disch := (first | omega | assumption | decide)) only [oa_ut, oa_bs, oa_lt, oa_ile, oa_inle, oa_ilt, oa_inlt, oa_ieq, oa_ineq, oa_rd_nI, oa_wr_nI, oa_rd_0, oa_rd_1, oa_wr_0, oa_wr_1, oa_rdL_nI, oa_wrL_nI, oa_bi_if0, oa_bi_if1, oa_zc_bi, oa_if_b0, oa_if_b1, nI_1, nI_add, pk_mul, Nat.add_assoc, Int32.add_zero, Int32.sub_zero, Int32.or_zero, Int32.and_neg_one, va_up_s, va_up_n, upd_s, oa_up2, ite_self, if_true, if_false, oa_10, oa_01, oa_neg4, oa_ifno, oa_l2, oa_l3, oa_l4, oa_l5, oa_l6, oa_l7, oa_l8, oa_l9, oa_l10, oa_l12, oa_l15, oa_l16, oa_l20, oa_l32, oa_l40, oa_l42, oa_l48, oa_l64, oa_l90, oa_l96, oa_l97, oa_l98, oa_l99, oa_l100, oa_l120, oa_l360, oa_l450, oa_l457, oa_l458, oa_l480, oa_l528]
      simp [oa_bi, e]
  by_cases s2 : P (8 * r) = 2
  · simp only [if_neg s0, if_neg s1, if_pos s2]
    by_cases e : r = q
    · simp (disch := (first | omega | assumption | decide)) only [oa_ut, oa_bs, oa_lt, oa_ile, oa_inle, oa_ilt, oa_inlt, oa_ieq, oa_ineq, oa_rd_nI, oa_wr_nI, oa_rd_0, oa_rd_1, oa_wr_0, oa_wr_1, oa_rdL_nI, oa_wrL_nI, oa_bi_if0, oa_bi_if1, oa_zc_bi, oa_if_b0, oa_if_b1, nI_1, nI_add, pk_mul, Nat.add_assoc, Int32.add_zero, Int32.sub_zero, Int32.or_zero, Int32.and_neg_one, va_up_s, va_up_n, upd_s, oa_up2, ite_self, if_true, if_false, oa_10, oa_01, oa_neg4, oa_ifno, oa_l2, oa_l3, oa_l4, oa_l5, oa_l6, oa_l7, oa_l8, oa_l9, oa_l10, oa_l12, oa_l15, oa_l16, oa_l20, oa_l32, oa_l40, oa_l42, oa_l48, oa_l64, oa_l90, oa_l96, oa_l97, oa_l98, oa_l99, oa_l100, oa_l120, oa_l360, oa_l450, oa_l457, oa_l458, oa_l480, oa_l528]
      simp [oa_bi, e]
    · simp (disch := (first | omega | assumption | decide)) only [ct_w h, oa_ut, oa_bs, oa_lt, oa_ile, oa_inle, oa_ilt, oa_inlt, oa_ieq, oa_ineq, oa_rd_nI, oa_wr_nI, oa_rd_0, oa_rd_1, oa_wr_0, oa_wr_1, oa_rdL_nI, oa_wrL_nI, oa_bi_if0, oa_bi_if1, oa_zc_bi, oa_if_b0, oa_if_b1, nI_1, nI_add, pk_mul, Nat.add_assoc, Int32.add_zero, Int32.sub_zero, Int32.or_zero, Int32.and_neg_one, va_up_s, va_up_n, upd_s, oa_up2, ite_self, if_true, if_false, oa_10, oa_01, oa_neg4, oa_ifno, oa_l2, oa_l3, oa_l4, oa_l5, oa_l6, oa_l7, oa_l8, oa_l9, oa_l10, oa_l12, oa_l15, oa_l16, oa_l20, oa_l32, oa_l40, oa_l42, oa_l48, oa_l64, oa_l90, oa_l96, oa_l97, oa_l98, oa_l99, oa_l100, oa_l120, oa_l360, oa_l450, oa_l457, oa_l458, oa_l480, oa_l528]
      by_cases l : P (8 * r + 7) = nI q
      · simp [l, oa_bi]
      · simp [l, oa_bi, e]
  by_cases s3 : P (8 * r) = 3
  · simp only [if_neg s0, if_neg s1, if_neg s2, if_pos s3]
    by_cases e : r = q
    · simp (disch := (first | omega | assumption | decide)) only [oa_ut, oa_bs, oa_lt, oa_ile, oa_inle, oa_ilt, oa_inlt, oa_ieq, oa_ineq, oa_rd_nI, oa_wr_nI, oa_rd_0, oa_rd_1, oa_wr_0, oa_wr_1, oa_rdL_nI, oa_wrL_nI, oa_bi_if0, oa_bi_if1, oa_zc_bi, oa_if_b0, oa_if_b1, nI_1, nI_add, pk_mul, Nat.add_assoc, Int32.add_zero, Int32.sub_zero, Int32.or_zero, Int32.and_neg_one, va_up_s, va_up_n, upd_s, oa_up2, ite_self, if_true, if_false, oa_10, oa_01, oa_neg4, oa_ifno, oa_l2, oa_l3, oa_l4, oa_l5, oa_l6, oa_l7, oa_l8, oa_l9, oa_l10, oa_l12, oa_l15, oa_l16, oa_l20, oa_l32, oa_l40, oa_l42, oa_l48, oa_l64, oa_l90, oa_l96, oa_l97, oa_l98, oa_l99, oa_l100, oa_l120, oa_l360, oa_l450, oa_l457, oa_l458, oa_l480, oa_l528]
      simp [oa_bi, e]
    · simp (disch := (first | omega | assumption | decide)) only [oa_ut, oa_bs, oa_lt, oa_ile, oa_inle, oa_ilt, oa_inlt, oa_ieq, oa_ineq, oa_rd_nI, oa_wr_nI, oa_rd_0, oa_rd_1, oa_wr_0, oa_wr_1, oa_rdL_nI, oa_wrL_nI, oa_bi_if0, oa_bi_if1, oa_zc_bi, oa_if_b0, oa_if_b1, nI_1, nI_add, pk_mul, Nat.add_assoc, Int32.add_zero, Int32.sub_zero, Int32.or_zero, Int32.and_neg_one, va_up_s, va_up_n, upd_s, oa_up2, ite_self, if_true, if_false, oa_10, oa_01, oa_neg4, oa_ifno, oa_l2, oa_l3, oa_l4, oa_l5, oa_l6, oa_l7, oa_l8, oa_l9, oa_l10, oa_l12, oa_l15, oa_l16, oa_l20, oa_l32, oa_l40, oa_l42, oa_l48, oa_l64, oa_l90, oa_l96, oa_l97, oa_l98, oa_l99, oa_l100, oa_l120, oa_l360, oa_l450, oa_l457, oa_l458, oa_l480, oa_l528]
      simp [oa_bi, e]
  · simp only [if_neg s0, if_neg s1, if_neg s2, if_neg s3]
    rfl
theorem ct_costOf {r : Nat} (h : CT n R P V) (hr : r < n) : f_X5_costOf V (nI r) = some (co R P r) := by
  have h1 := h.1
  have h3 := h.2.2.1 1 (by omega)
  unfold f_X5_costOf f_X6_costFor co
  simp (disch := (first | omega | assumption | decide)) only [ct_w h, h3, oa_ut, oa_bs, oa_lt, oa_ile, oa_inle, oa_ilt, oa_inlt, oa_ieq, oa_ineq, oa_rd_nI, oa_wr_nI, oa_rd_0, oa_rd_1, oa_wr_0, oa_wr_1, oa_rdL_nI, oa_wrL_nI, oa_bi_if0, oa_bi_if1, oa_zc_bi, oa_if_b0, oa_if_b1, nI_1, nI_add, pk_mul, Nat.add_assoc, Int32.add_zero, Int32.sub_zero, Int32.or_zero, Int32.and_neg_one, va_up_s, va_up_n, upd_s, oa_up2, ite_self, if_true, if_false, oa_10, oa_01, oa_neg4, oa_ifno, oa_l2, oa_l3, oa_l4, oa_l5, oa_l6, oa_l7, oa_l8, oa_l9, oa_l10, oa_l12, oa_l15, oa_l16, oa_l20, oa_l32, oa_l40, oa_l42, oa_l48, oa_l64, oa_l90, oa_l96, oa_l97, oa_l98, oa_l99, oa_l100, oa_l120, oa_l360, oa_l450, oa_l457, oa_l458, oa_l480, oa_l528]
theorem ct_value {q : Nat} {x : Int32} (h : CT n R P V) (hq : q < n) : f_X5_value V (nI q) x = some (val R P q (bt x) n) := by
  have h1 := h.1
  unfold f_X5_value l_X5_value_10
  simp (disch := (first | omega | assumption | decide)) only [ct_1 h, oa_ut, oa_bs, oa_lt, oa_ile, oa_inle, oa_ilt, oa_inlt, oa_ieq, oa_ineq, oa_rd_nI, oa_wr_nI, oa_rd_0, oa_rd_1, oa_wr_0, oa_wr_1, oa_rdL_nI, oa_wrL_nI, oa_bi_if0, oa_bi_if1, oa_zc_bi, oa_if_b0, oa_if_b1, nI_1, nI_add, pk_mul, Nat.add_assoc, Int32.add_zero, Int32.sub_zero, Int32.or_zero, Int32.and_neg_one, va_up_s, va_up_n, upd_s, oa_up2, ite_self, if_true, if_false, oa_10, oa_01, oa_neg4, oa_ifno, oa_l2, oa_l3, oa_l4, oa_l5, oa_l6, oa_l7, oa_l8, oa_l9, oa_l10, oa_l12, oa_l15, oa_l16, oa_l20, oa_l32, oa_l40, oa_l42, oa_l48, oa_l64, oa_l90, oa_l96, oa_l97, oa_l98, oa_l99, oa_l100, oa_l120, oa_l360, oa_l450, oa_l457, oa_l458, oa_l480, oa_l528]
  refine oa_for (fun i => (val R P q (bt x) i, nI i)) n rfl ?_ ?_ _ (by rw [oa_fu_eq]; omega)
  · intro i hi k
    simp (disch := (first | omega | assumption | decide)) only [b_X5_value_10, h.2.1, ct_minds h, ct_costOf h, val_succ, oa_ut, oa_bs, oa_lt, oa_ile, oa_inle, oa_ilt, oa_inlt, oa_ieq, oa_ineq, oa_rd_nI, oa_wr_nI, oa_rd_0, oa_rd_1, oa_wr_0, oa_wr_1, oa_rdL_nI, oa_wrL_nI, oa_bi_if0, oa_bi_if1, oa_zc_bi, oa_if_b0, oa_if_b1, nI_1, nI_add, pk_mul, Nat.add_assoc, Int32.add_zero, Int32.sub_zero, Int32.or_zero, Int32.and_neg_one, va_up_s, va_up_n, upd_s, oa_up2, ite_self, if_true, if_false, oa_10, oa_01, oa_neg4, oa_ifno, oa_l2, oa_l3, oa_l4, oa_l5, oa_l6, oa_l7, oa_l8, oa_l9, oa_l10, oa_l12, oa_l15, oa_l16, oa_l20, oa_l32, oa_l40, oa_l42, oa_l48, oa_l64, oa_l90, oa_l96, oa_l97, oa_l98, oa_l99, oa_l100, oa_l120, oa_l360, oa_l450, oa_l457, oa_l458, oa_l480, oa_l528]
    cases bt x i <;> cases mi P i q <;> rfl
  · intro k
    simp (disch := (first | omega | assumption | decide)) only [b_X5_value_10, h.2.1, oa_ut, oa_bs, oa_lt, oa_ile, oa_inle, oa_ilt, oa_inlt, oa_ieq, oa_ineq, oa_rd_nI, oa_wr_nI, oa_rd_0, oa_rd_1, oa_wr_0, oa_wr_1, oa_rdL_nI, oa_wrL_nI, oa_bi_if0, oa_bi_if1, oa_zc_bi, oa_if_b0, oa_if_b1, nI_1, nI_add, pk_mul, Nat.add_assoc, Int32.add_zero, Int32.sub_zero, Int32.or_zero, Int32.and_neg_one, va_up_s, va_up_n, upd_s, oa_up2, ite_self, if_true, if_false, oa_10, oa_01, oa_neg4, oa_ifno, oa_l2, oa_l3, oa_l4, oa_l5, oa_l6, oa_l7, oa_l8, oa_l9, oa_l10, oa_l12, oa_l15, oa_l16, oa_l20, oa_l32, oa_l40, oa_l42, oa_l48, oa_l64, oa_l90, oa_l96, oa_l97, oa_l98, oa_l99, oa_l100, oa_l120, oa_l360, oa_l450, oa_l457, oa_l458, oa_l480, oa_l528]
theorem ct_choice {p : Nat} {x : Int32} (h : CT n R P V) (hp : p < 2 ^ 31) : f_X5_choice V (nI p) x = some (chs R P n p (bt x) n).1 := by
  have h1 := h.1
  unfold f_X5_choice l_X5_choice_9
  refine oa_for (fun i => ((chs R P n p (bt x) i).1, (chs R P n p (bt x) i).2, nI i)) n rfl ?_ ?_ _ (by rw [oa_fu_eq]; omega)
  · intro i hi k
    rw [chs_succ]
    by_cases e : i = p
    · simp (disch := (first | omega | assumption | decide)) only [b_X5_choice_9, h.2.1, if_pos e, oa_ut, oa_bs, oa_lt, oa_ile, oa_inle, oa_ilt, oa_inlt, oa_ieq, oa_ineq, oa_rd_nI, oa_wr_nI, oa_rd_0, oa_rd_1, oa_wr_0, oa_wr_1, oa_rdL_nI, oa_wrL_nI, oa_bi_if0, oa_bi_if1, oa_zc_bi, oa_if_b0, oa_if_b1, nI_1, nI_add, pk_mul, Nat.add_assoc, Int32.add_zero, Int32.sub_zero, Int32.or_zero, Int32.and_neg_one, va_up_s, va_up_n, upd_s, oa_up2, ite_self, if_true, if_false, oa_10, oa_01, oa_neg4, oa_ifno, oa_l2, oa_l3, oa_l4, oa_l5, oa_l6, oa_l7, oa_l8, oa_l9, oa_l10, oa_l12, oa_l15, oa_l16, oa_l20, oa_l32, oa_l40, oa_l42, oa_l48, oa_l64, oa_l90, oa_l96, oa_l97, oa_l98, oa_l99, oa_l100, oa_l120, oa_l360, oa_l450, oa_l457, oa_l458, oa_l480, oa_l528]
    · simp (disch := (first | omega | assumption | decide)) only [b_X5_choice_9, h.2.1, if_neg e, ct_value h, oa_ut, oa_bs, oa_lt, oa_ile, oa_inle, oa_ilt, oa_inlt, oa_ieq, oa_ineq, oa_rd_nI, oa_wr_nI, oa_rd_0, oa_rd_1, oa_wr_0, oa_wr_1, oa_rdL_nI, oa_wrL_nI, oa_bi_if0, oa_bi_if1, oa_zc_bi, oa_if_b0, oa_if_b1, nI_1, nI_add, pk_mul, Nat.add_assoc, Int32.add_zero, Int32.sub_zero, Int32.or_zero, Int32.and_neg_one, va_up_s, va_up_n, upd_s, oa_up2, ite_self, if_true, if_false, oa_10, oa_01, oa_neg4, oa_ifno, oa_l2, oa_l3, oa_l4, oa_l5, oa_l6, oa_l7, oa_l8, oa_l9, oa_l10, oa_l12, oa_l15, oa_l16, oa_l20, oa_l32, oa_l40, oa_l42, oa_l48, oa_l64, oa_l90, oa_l96, oa_l97, oa_l98, oa_l99, oa_l100, oa_l120, oa_l360, oa_l450, oa_l457, oa_l458, oa_l480, oa_l528]
      by_cases l : (chs R P n p (bt x) i).2 < val R P i (bt x) n
      · rw [if_neg (Int32.not_le.mpr l), if_pos l]
      · rw [if_pos (Int32.not_lt.mp l), if_neg l]
  · intro k
    simp (disch := (first | omega | assumption | decide)) only [b_X5_choice_9, h.2.1, oa_ut, oa_bs, oa_lt, oa_ile, oa_inle, oa_ilt, oa_inlt, oa_ieq, oa_ineq, oa_rd_nI, oa_wr_nI, oa_rd_0, oa_rd_1, oa_wr_0, oa_wr_1, oa_rdL_nI, oa_wrL_nI, oa_bi_if0, oa_bi_if1, oa_zc_bi, oa_if_b0, oa_if_b1, nI_1, nI_add, pk_mul, Nat.add_assoc, Int32.add_zero, Int32.sub_zero, Int32.or_zero, Int32.and_neg_one, va_up_s, va_up_n, upd_s, oa_up2, ite_self, if_true, if_false, oa_10, oa_01, oa_neg4, oa_ifno, oa_l2, oa_l3, oa_l4, oa_l5, oa_l6, oa_l7, oa_l8, oa_l9, oa_l10, oa_l12, oa_l15, oa_l16, oa_l20, oa_l32, oa_l40, oa_l42, oa_l48, oa_l64, oa_l90, oa_l96, oa_l97, oa_l98, oa_l99, oa_l100, oa_l120, oa_l360, oa_l450, oa_l457, oa_l458, oa_l480, oa_l528]
theorem ct_allOf {s : Int32} (h : CT n R P V) : f_X5_allOf V s = some (oa_mk (fg P s) n) := by
  have h1 := h.1
  unfold f_X5_allOf l_X5_allOf_4
  refine oa_for (fun i => (oa_mk (fg P s) i, nI i)) n rfl ?_ ?_ _ (by rw [oa_fu_eq]; omega)
  · intro i hi k
    simp (disch := (first | omega | assumption | decide)) only [b_X5_allOf_4, h.2.1, ct_0 h, oa_mk_succ, oa_ut, oa_bs, oa_lt, oa_ile, oa_inle, oa_ilt, oa_inlt, oa_ieq, oa_ineq, oa_rd_nI, oa_wr_nI, oa_rd_0, oa_rd_1, oa_wr_0, oa_wr_1, oa_rdL_nI, oa_wrL_nI, oa_bi_if0, oa_bi_if1, oa_zc_bi, oa_if_b0, oa_if_b1, nI_1, nI_add, pk_mul, Nat.add_assoc, Int32.add_zero, Int32.sub_zero, Int32.or_zero, Int32.and_neg_one, va_up_s, va_up_n, upd_s, oa_up2, ite_self, if_true, if_false, oa_10, oa_01, oa_neg4, oa_ifno, oa_l2, oa_l3, oa_l4, oa_l5, oa_l6, oa_l7, oa_l8, oa_l9, oa_l10, oa_l12, oa_l15, oa_l16, oa_l20, oa_l32, oa_l40, oa_l42, oa_l48, oa_l64, oa_l90, oa_l96, oa_l97, oa_l98, oa_l99, oa_l100, oa_l120, oa_l360, oa_l450, oa_l457, oa_l458, oa_l480, oa_l528]
    unfold fg
    by_cases e : P (8 * i) = s
    · simp [e]
    · simp [e]
  · intro k
    simp (disch := (first | omega | assumption | decide)) only [b_X5_allOf_4, h.2.1, oa_ut, oa_bs, oa_lt, oa_ile, oa_inle, oa_ilt, oa_inlt, oa_ieq, oa_ineq, oa_rd_nI, oa_wr_nI, oa_rd_0, oa_rd_1, oa_wr_0, oa_wr_1, oa_rdL_nI, oa_wrL_nI, oa_bi_if0, oa_bi_if1, oa_zc_bi, oa_if_b0, oa_if_b1, nI_1, nI_add, pk_mul, Nat.add_assoc, Int32.add_zero, Int32.sub_zero, Int32.or_zero, Int32.and_neg_one, va_up_s, va_up_n, upd_s, oa_up2, ite_self, if_true, if_false, oa_10, oa_01, oa_neg4, oa_ifno, oa_l2, oa_l3, oa_l4, oa_l5, oa_l6, oa_l7, oa_l8, oa_l9, oa_l10, oa_l12, oa_l15, oa_l16, oa_l20, oa_l32, oa_l40, oa_l42, oa_l48, oa_l64, oa_l90, oa_l96, oa_l97, oa_l98, oa_l99, oa_l100, oa_l120, oa_l360, oa_l450, oa_l457, oa_l458, oa_l480, oa_l528]
/-- who is free, by the bits of the class alone -/
theorem ct_free (h : CT n R P V) : f_X5_free V = some (oa_mk (fun r => decide (oa_pc (V 2 r) < R 0)) n) := by
  have h1 := h.1
  have h3 := h.2.2.1 0 (by omega)
  unfold f_X5_free l_X5_free_4
  refine oa_for (fun i => (oa_mk (fun r => decide (oa_pc (V 2 r) < R 0)) i, nI i)) n rfl ?_ ?_ _ (by rw [oa_fu_eq]; omega)
  · intro i hi k
    simp (disch := (first | omega | assumption | decide)) only [b_X5_free_4, h.2.1, oa_pc_eq, oa_mk_succ, h3, oa_ut, oa_bs, oa_lt, oa_ile, oa_inle, oa_ilt, oa_inlt, oa_ieq, oa_ineq, oa_rd_nI, oa_wr_nI, oa_rd_0, oa_rd_1, oa_wr_0, oa_wr_1, oa_rdL_nI, oa_wrL_nI, oa_bi_if0, oa_bi_if1, oa_zc_bi, oa_if_b0, oa_if_b1, nI_1, nI_add, pk_mul, Nat.add_assoc, Int32.add_zero, Int32.sub_zero, Int32.or_zero, Int32.and_neg_one, va_up_s, va_up_n, upd_s, oa_up2, ite_self, if_true, if_false, oa_10, oa_01, oa_neg4, oa_ifno, oa_l2, oa_l3, oa_l4, oa_l5, oa_l6, oa_l7, oa_l8, oa_l9, oa_l10, oa_l12, oa_l15, oa_l16, oa_l20, oa_l32, oa_l40, oa_l42, oa_l48, oa_l64, oa_l90, oa_l96, oa_l97, oa_l98, oa_l99, oa_l100, oa_l120, oa_l360, oa_l450, oa_l457, oa_l458, oa_l480, oa_l528]
    by_cases e : oa_pc (V 2 i) < R 0
    · rw [if_neg (Int32.not_le.mpr e)]; simp [e]
    · rw [if_pos (Int32.not_lt.mp e)]; simp [e]
  · intro k
    simp (disch := (first | omega | assumption | decide)) only [b_X5_free_4, h.2.1, oa_ut, oa_bs, oa_lt, oa_ile, oa_inle, oa_ilt, oa_inlt, oa_ieq, oa_ineq, oa_rd_nI, oa_wr_nI, oa_rd_0, oa_rd_1, oa_wr_0, oa_wr_1, oa_rdL_nI, oa_wrL_nI, oa_bi_if0, oa_bi_if1, oa_zc_bi, oa_if_b0, oa_if_b1, nI_1, nI_add, pk_mul, Nat.add_assoc, Int32.add_zero, Int32.sub_zero, Int32.or_zero, Int32.and_neg_one, va_up_s, va_up_n, upd_s, oa_up2, ite_self, if_true, if_false, oa_10, oa_01, oa_neg4, oa_ifno, oa_l2, oa_l3, oa_l4, oa_l5, oa_l6, oa_l7, oa_l8, oa_l9, oa_l10, oa_l12, oa_l15, oa_l16, oa_l20, oa_l32, oa_l40, oa_l42, oa_l48, oa_l64, oa_l90, oa_l96, oa_l97, oa_l98, oa_l99, oa_l100, oa_l120, oa_l360, oa_l450, oa_l457, oa_l458, oa_l480, oa_l528]
theorem ct_isAngry {r p : Nat} (hr : r < 6) (hp : p < 32) : f_X5_isAngry V (nI r) (nI p) = some (oa_bi (bt (V 2 r) p)) := by
  unfold f_X5_isAngry
  simp (disch := (first | omega | assumption | decide)) only [oa_ut, oa_bs, oa_lt, oa_ile, oa_inle, oa_ilt, oa_inlt, oa_ieq, oa_ineq, oa_rd_nI, oa_wr_nI, oa_rd_0, oa_rd_1, oa_wr_0, oa_wr_1, oa_rdL_nI, oa_wrL_nI, oa_bi_if0, oa_bi_if1, oa_zc_bi, oa_if_b0, oa_if_b1, nI_1, nI_add, pk_mul, Nat.add_assoc, Int32.add_zero, Int32.sub_zero, Int32.or_zero, Int32.and_neg_one, va_up_s, va_up_n, upd_s, oa_up2, ite_self, if_true, if_false, oa_10, oa_01, oa_neg4, oa_ifno, oa_l2, oa_l3, oa_l4, oa_l5, oa_l6, oa_l7, oa_l8, oa_l9, oa_l10, oa_l12, oa_l15, oa_l16, oa_l20, oa_l32, oa_l40, oa_l42, oa_l48, oa_l64, oa_l90, oa_l96, oa_l97, oa_l98, oa_l99, oa_l100, oa_l120, oa_l360, oa_l450, oa_l457, oa_l458, oa_l480, oa_l528]
  cases bt (V 2 r) p <;> rfl
theorem ct_angryWith {p : Nat} (h : CT n R P V) (hp : p < 32) : f_X5_angryWith V (nI p) = some (oa_mk (fun r => bt (V 2 r) p) n) := by
  have h1 := h.1
  unfold f_X5_angryWith l_X5_angryWith_4
  refine oa_for (fun i => (oa_mk (fun r => bt (V 2 r) p) i, nI i)) n rfl ?_ ?_ _ (by rw [oa_fu_eq]; omega)
  · intro i hi k
    simp (disch := (first | omega | assumption | decide)) only [b_X5_angryWith_4, h.2.1, ct_isAngry, oa_mk_succ, oa_ut, oa_bs, oa_lt, oa_ile, oa_inle, oa_ilt, oa_inlt, oa_ieq, oa_ineq, oa_rd_nI, oa_wr_nI, oa_rd_0, oa_rd_1, oa_wr_0, oa_wr_1, oa_rdL_nI, oa_wrL_nI, oa_bi_if0, oa_bi_if1, oa_zc_bi, oa_if_b0, oa_if_b1, nI_1, nI_add, pk_mul, Nat.add_assoc, Int32.add_zero, Int32.sub_zero, Int32.or_zero, Int32.and_neg_one, va_up_s, va_up_n, upd_s, oa_up2, ite_self, if_true, if_false, oa_10, oa_01, oa_neg4, oa_ifno, oa_l2, oa_l3, oa_l4, oa_l5, oa_l6, oa_l7, oa_l8, oa_l9, oa_l10, oa_l12, oa_l15, oa_l16, oa_l20, oa_l32, oa_l40, oa_l42, oa_l48, oa_l64, oa_l90, oa_l96, oa_l97, oa_l98, oa_l99, oa_l100, oa_l120, oa_l360, oa_l450, oa_l457, oa_l458, oa_l480, oa_l528]
    cases bt (V 2 i) p <;> rfl
  · intro k
    simp (disch := (first | omega | assumption | decide)) only [b_X5_angryWith_4, h.2.1, oa_ut, oa_bs, oa_lt, oa_ile, oa_inle, oa_ilt, oa_inlt, oa_ieq, oa_ineq, oa_rd_nI, oa_wr_nI, oa_rd_0, oa_rd_1, oa_wr_0, oa_wr_1, oa_rdL_nI, oa_wrL_nI, oa_bi_if0, oa_bi_if1, oa_zc_bi, oa_if_b0, oa_if_b1, nI_1, nI_add, pk_mul, Nat.add_assoc, Int32.add_zero, Int32.sub_zero, Int32.or_zero, Int32.and_neg_one, va_up_s, va_up_n, upd_s, oa_up2, ite_self, if_true, if_false, oa_10, oa_01, oa_neg4, oa_ifno, oa_l2, oa_l3, oa_l4, oa_l5, oa_l6, oa_l7, oa_l8, oa_l9, oa_l10, oa_l12, oa_l15, oa_l16, oa_l20, oa_l32, oa_l40, oa_l42, oa_l48, oa_l64, oa_l90, oa_l96, oa_l97, oa_l98, oa_l99, oa_l100, oa_l120, oa_l360, oa_l450, oa_l457, oa_l458, oa_l480, oa_l528]
/-- who can, by the bits of the class alone -/
noncomputable def cabl (R : oa_P) (V : oa_I2) (p r : Nat) : Bool := (decide (oa_pc (V 2 r) < R 0) && !bt (V 2 r) p) && !decide (r = p)
theorem ct_able {p : Nat} (h : CT n R P V) (hp : p < 32) : f_X5_able V (nI p) = some (oa_mk (cabl R V p) n) := by
  have h1 := h.1
  unfold f_X5_able
  simp (disch := (first | omega | assumption | decide)) only [ct_free h, ct_angryWith h, oa_ut, oa_bs, oa_lt, oa_ile, oa_inle, oa_ilt, oa_inlt, oa_ieq, oa_ineq, oa_rd_nI, oa_wr_nI, oa_rd_0, oa_rd_1, oa_wr_0, oa_wr_1, oa_rdL_nI, oa_wrL_nI, oa_bi_if0, oa_bi_if1, oa_zc_bi, oa_if_b0, oa_if_b1, nI_1, nI_add, pk_mul, Nat.add_assoc, Int32.add_zero, Int32.sub_zero, Int32.or_zero, Int32.and_neg_one, va_up_s, va_up_n, upd_s, oa_up2, ite_self, if_true, if_false, oa_10, oa_01, oa_neg4, oa_ifno, oa_l2, oa_l3, oa_l4, oa_l5, oa_l6, oa_l7, oa_l8, oa_l9, oa_l10, oa_l12, oa_l15, oa_l16, oa_l20, oa_l32, oa_l40, oa_l42, oa_l48, oa_l64, oa_l90, oa_l96, oa_l97, oa_l98, oa_l99, oa_l100, oa_l120, oa_l360, oa_l450, oa_l457, oa_l458, oa_l480, oa_l528]
  rw [oa_mk_andn _ _ (by omega), oa_mk_and1 _ (by omega) hp]
  rfl
theorem ct_ableAsSeen {p : Nat} (h : CT n R P V) (hp : p < 32) : f_X5_ableAsSeen V (nI p) = some (oa_mk (fun r => cabl R V p r && !fg P 3 r) n) := by
  have h1 := h.1
  unfold f_X5_ableAsSeen
  simp (disch := (first | omega | assumption | decide)) only [ct_able h, ct_allOf h, oa_ut, oa_bs, oa_lt, oa_ile, oa_inle, oa_ilt, oa_inlt, oa_ieq, oa_ineq, oa_rd_nI, oa_wr_nI, oa_rd_0, oa_rd_1, oa_wr_0, oa_wr_1, oa_rdL_nI, oa_wrL_nI, oa_bi_if0, oa_bi_if1, oa_zc_bi, oa_if_b0, oa_if_b1, nI_1, nI_add, pk_mul, Nat.add_assoc, Int32.add_zero, Int32.sub_zero, Int32.or_zero, Int32.and_neg_one, va_up_s, va_up_n, upd_s, oa_up2, ite_self, if_true, if_false, oa_10, oa_01, oa_neg4, oa_ifno, oa_l2, oa_l3, oa_l4, oa_l5, oa_l6, oa_l7, oa_l8, oa_l9, oa_l10, oa_l12, oa_l15, oa_l16, oa_l20, oa_l32, oa_l40, oa_l42, oa_l48, oa_l64, oa_l90, oa_l96, oa_l97, oa_l98, oa_l99, oa_l100, oa_l120, oa_l360, oa_l450, oa_l457, oa_l458, oa_l480, oa_l528]
  rw [oa_mk_andn _ _ (by omega)]
theorem ct_minders {q : Nat} {x : Int32} (h : CT n R P V) (hq : q < 2 ^ 31) : f_X5_minders V (nI q) x = some (oa_mk (fun r => bt x r && mi P r q) n) := by
  have h1 := h.1
  unfold f_X5_minders l_X5_minders_5
  refine oa_for (fun i => (oa_mk (fun r => bt x r && mi P r q) i, nI i)) n rfl ?_ ?_ _ (by rw [oa_fu_eq]; omega)
  · intro i hi k
    simp (disch := (first | omega | assumption | decide)) only [b_X5_minders_5, h.2.1, ct_minds h, oa_mk_succ, oa_ut, oa_bs, oa_lt, oa_ile, oa_inle, oa_ilt, oa_inlt, oa_ieq, oa_ineq, oa_rd_nI, oa_wr_nI, oa_rd_0, oa_rd_1, oa_wr_0, oa_wr_1, oa_rdL_nI, oa_wrL_nI, oa_bi_if0, oa_bi_if1, oa_zc_bi, oa_if_b0, oa_if_b1, nI_1, nI_add, pk_mul, Nat.add_assoc, Int32.add_zero, Int32.sub_zero, Int32.or_zero, Int32.and_neg_one, va_up_s, va_up_n, upd_s, oa_up2, ite_self, if_true, if_false, oa_10, oa_01, oa_neg4, oa_ifno, oa_l2, oa_l3, oa_l4, oa_l5, oa_l6, oa_l7, oa_l8, oa_l9, oa_l10, oa_l12, oa_l15, oa_l16, oa_l20, oa_l32, oa_l40, oa_l42, oa_l48, oa_l64, oa_l90, oa_l96, oa_l97, oa_l98, oa_l99, oa_l100, oa_l120, oa_l360, oa_l450, oa_l457, oa_l458, oa_l480, oa_l528]
    cases bt x i <;> cases mi P i q <;> rfl
  · intro k
    simp (disch := (first | omega | assumption | decide)) only [b_X5_minders_5, h.2.1, oa_ut, oa_bs, oa_lt, oa_ile, oa_inle, oa_ilt, oa_inlt, oa_ieq, oa_ineq, oa_rd_nI, oa_wr_nI, oa_rd_0, oa_rd_1, oa_wr_0, oa_wr_1, oa_rdL_nI, oa_wrL_nI, oa_bi_if0, oa_bi_if1, oa_zc_bi, oa_if_b0, oa_if_b1, nI_1, nI_add, pk_mul, Nat.add_assoc, Int32.add_zero, Int32.sub_zero, Int32.or_zero, Int32.and_neg_one, va_up_s, va_up_n, upd_s, oa_up2, ite_self, if_true, if_false, oa_10, oa_01, oa_neg4, oa_ifno, oa_l2, oa_l3, oa_l4, oa_l5, oa_l6, oa_l7, oa_l8, oa_l9, oa_l10, oa_l12, oa_l15, oa_l16, oa_l20, oa_l32, oa_l40, oa_l42, oa_l48, oa_l64, oa_l90, oa_l96, oa_l97, oa_l98, oa_l99, oa_l100, oa_l120, oa_l360, oa_l450, oa_l457, oa_l458, oa_l480, oa_l528]
theorem ct_has {x : Int32} (h : CT n R P V) : f_X5_has V x = some (oa_bi (oa_wi x 0 (nI n - 1))) := by
  unfold f_X5_has
  simp (disch := (first | omega | assumption | decide)) only [h.2.1, f_within, oa_ut, oa_bs, oa_lt, oa_ile, oa_inle, oa_ilt, oa_inlt, oa_ieq, oa_ineq, oa_rd_nI, oa_wr_nI, oa_rd_0, oa_rd_1, oa_wr_0, oa_wr_1, oa_rdL_nI, oa_wrL_nI, oa_bi_if0, oa_bi_if1, oa_zc_bi, oa_if_b0, oa_if_b1, nI_1, nI_add, pk_mul, Nat.add_assoc, Int32.add_zero, Int32.sub_zero, Int32.or_zero, Int32.and_neg_one, va_up_s, va_up_n, upd_s, oa_up2, ite_self, if_true, if_false, oa_10, oa_01, oa_neg4, oa_ifno, oa_l2, oa_l3, oa_l4, oa_l5, oa_l6, oa_l7, oa_l8, oa_l9, oa_l10, oa_l12, oa_l15, oa_l16, oa_l20, oa_l32, oa_l40, oa_l42, oa_l48, oa_l64, oa_l90, oa_l96, oa_l97, oa_l98, oa_l99, oa_l100, oa_l120, oa_l360, oa_l450, oa_l457, oa_l458, oa_l480, oa_l528]
theorem ct_hasTwo {x y : Int32} (h : CT n R P V) : f_X5_hasTwo V x y = some (oa_bi (oa_wi x 0 (nI n - 1) && oa_wi y 0 (nI n - 1) && !decide (x = y))) := by
  unfold f_X5_hasTwo
  simp (disch := (first | omega | assumption | decide)) only [ct_has h, oa_ut, oa_bs, oa_lt, oa_ile, oa_inle, oa_ilt, oa_inlt, oa_ieq, oa_ineq, oa_rd_nI, oa_wr_nI, oa_rd_0, oa_rd_1, oa_wr_0, oa_wr_1, oa_rdL_nI, oa_wrL_nI, oa_bi_if0, oa_bi_if1, oa_zc_bi, oa_if_b0, oa_if_b1, nI_1, nI_add, pk_mul, Nat.add_assoc, Int32.add_zero, Int32.sub_zero, Int32.or_zero, Int32.and_neg_one, va_up_s, va_up_n, upd_s, oa_up2, ite_self, if_true, if_false, oa_10, oa_01, oa_neg4, oa_ifno, oa_l2, oa_l3, oa_l4, oa_l5, oa_l6, oa_l7, oa_l8, oa_l9, oa_l10, oa_l12, oa_l15, oa_l16, oa_l20, oa_l32, oa_l40, oa_l42, oa_l48, oa_l64, oa_l90, oa_l96, oa_l97, oa_l98, oa_l99, oa_l100, oa_l120, oa_l360, oa_l450, oa_l457, oa_l458, oa_l480, oa_l528]
  cases oa_wi x 0 (nI n - 1) <;> cases oa_wi y 0 (nI n - 1) <;> by_cases e : x = y <;> simp [e, oa_bi]
theorem ct_canMeet {x y : Int32} (h : CT n R P V) : f_X5_canMeet V x y = some (oa_bi (oa_wi x 0 (nI n - 1) && (decide (y = nI 6) || (oa_wi y 0 (nI n - 1) && !decide (x = y))))) := by
  unfold f_X5_canMeet
  simp (disch := (first | omega | assumption | decide)) only [ct_has h, ct_hasTwo h, oa_ut, oa_bs, oa_lt, oa_ile, oa_inle, oa_ilt, oa_inlt, oa_ieq, oa_ineq, oa_rd_nI, oa_wr_nI, oa_rd_0, oa_rd_1, oa_wr_0, oa_wr_1, oa_rdL_nI, oa_wrL_nI, oa_bi_if0, oa_bi_if1, oa_zc_bi, oa_if_b0, oa_if_b1, nI_1, nI_add, pk_mul, Nat.add_assoc, Int32.add_zero, Int32.sub_zero, Int32.or_zero, Int32.and_neg_one, va_up_s, va_up_n, upd_s, oa_up2, ite_self, if_true, if_false, oa_10, oa_01, oa_neg4, oa_ifno, oa_l2, oa_l3, oa_l4, oa_l5, oa_l6, oa_l7, oa_l8, oa_l9, oa_l10, oa_l12, oa_l15, oa_l16, oa_l20, oa_l32, oa_l40, oa_l42, oa_l48, oa_l64, oa_l90, oa_l96, oa_l97, oa_l98, oa_l99, oa_l100, oa_l120, oa_l360, oa_l450, oa_l457, oa_l458, oa_l480, oa_l528]
  cases oa_wi x 0 (nI n - 1)
  · rfl
  · by_cases e : y = nI 6
    · simp [e, oa_bi]
    · simp only [e, if_true, if_false]
      cases oa_wi y 0 (nI n - 1) <;> by_cases e2 : x = y <;> simp [e2, oa_bi]
end CTs
