/-! who is worth wronging: pairs as bits -/
def bitL (k : Nat) : Int64 := (1 : Int64) <<< (Int32.toInt64 (nI k) &&& 63)
/-- pairs for which f holds, as bits -/
def omk (f : Nat → Nat → Bool) (n : Nat) : Int64 := it (fun p x => it (fun q x => if f p q = true then x ||| bitL (6 * p + q) else x) n x) n 0
/-- how many pairs -/
def cnt2 (f : Nat → Nat → Bool) (n : Nat) : Int32 := it (fun p x => it (fun q x => if f p q = true then x + 1 else x) n x) n 0
theorem it_cong {α : Type} {f g : Nat → α → α} : ∀ {N : Nat}, (∀ k, k < N → ∀ x, f k x = g k x) → ∀ x, it f N x = it g N x
  | 0, _, _ => rfl
  | N + 1, h, x => by rw [it_succ, it_succ, it_cong (fun k hk => h k (by omega)) x, h N (by omega)]
theorem omk_cong {f g : Nat → Nat → Bool} {n : Nat} (h : ∀ p, p < n → ∀ q, q < n → f p q = g p q) : omk f n = omk g n :=
  it_cong (fun p hp x => it_cong (fun q hq y => by rw [h p hp q hq]) x) 0
theorem cnt2_cong {f g : Nat → Nat → Bool} {n : Nat} (h : ∀ p, p < n → ∀ q, q < n → f p q = g p q) : cnt2 f n = cnt2 g n :=
  it_cong (fun p hp x => it_cong (fun q hq y => by rw [h p hp q hq]) x) 0
theorem bitL_bt : ∀ k, k < 36 → ∀ i, i < 64 → btL (bitL k) i = decide (i = k) := by decide +kernel
theorem btL_or (x y : Int64) (i : Nat) : btL (x ||| y) i = (btL x i || btL y i) := by unfold btL; rw [Int64.toBitVec_or, BitVec.getLsbD_or]
theorem btL_0 (i : Nat) : btL 0 i = false := BitVec.getLsbD_zero
theorem bL_ext {x y : Int64} (h : ∀ i, i < 64 → btL x i = btL y i) : x = y := Int64.toBitVec_inj.mp (BitVec.eq_of_getLsbD_eq (fun i hi => h i hi))
theorem omk_row {f : Nat → Nat → Bool} {p n : Nat} (hp : p < 6) (hn : n ≤ 6) (x : Int64) : ∀ j, j ≤ n → ∀ i, i < 64 → btL (it (fun q x => if f p q = true then x ||| bitL (6 * p + q) else x) j x) i = (btL x i || (decide (i / 6 = p) && decide (i % 6 < j) && f p (i % 6)))
  | 0, _, i, _ => by simp [it]
  | j + 1, hj, i, hi => by
    rw [it_succ]
    have ih := omk_row (f := f) hp hn x j (by omega) i hi
    by_cases h : f p j = true
    · rw [if_pos h, btL_or, ih, bitL_bt _ (by omega) i hi]
      by_cases e : i = 6 * p + j
      · have e1 : i / 6 = p := by omega
        have e2 : i % 6 = j := by omega
        rw [decide_eq_true e, e1, e2, h]; simp
      · by_cases e1 : i / 6 = p
        · have : decide (i % 6 < j + 1) = decide (i % 6 < j) := decide_eq_decide.mpr (by omega)
          simp [e, this]
        · simp [e, e1]
    · rw [if_neg h, ih]
      by_cases e1 : i / 6 = p ∧ i % 6 = j
      · rw [e1.2]; simp [h]
      · by_cases e2 : i / 6 = p
        · have : decide (i % 6 < j + 1) = decide (i % 6 < j) := decide_eq_decide.mpr (by omega)
          rw [this]
        · simp [e2]
theorem omk_bts {f : Nat → Nat → Bool} {n : Nat} (hn : n ≤ 6) : ∀ j, j ≤ n → ∀ i, i < 64 → btL (it (fun p x => it (fun q x => if f p q = true then x ||| bitL (6 * p + q) else x) n x) j 0) i = (decide (i / 6 < j) && decide (i % 6 < n) && f (i / 6) (i % 6))
  | 0, _, i, _ => by simp [it, btL_0]
  | j + 1, hj, i, hi => by
    rw [it_succ, omk_row (by omega) hn _ n (Nat.le_refl n) i hi, omk_bts hn j (by omega) i hi]
    by_cases e : i / 6 = j
    · simp [e]
    · have : decide (i / 6 < j + 1) = decide (i / 6 < j) := decide_eq_decide.mpr (by omega)
      simp [e, this]
theorem omk_bt {f : Nat → Nat → Bool} {n i : Nat} (hn : n ≤ 6) (hi : i < 64) : btL (omk f n) i = (decide (i / 6 < n) && decide (i % 6 < n) && f (i / 6) (i % 6)) := omk_bts hn n (Nat.le_refl n) i hi
theorem omk_0 {f : Nat → Nat → Bool} {n : Nat} (hn : n ≤ 6) : omk f n = 0 ↔ ∀ p, p < n → ∀ q, q < n → f p q = false := by
  constructor
  · intro h p hp q hq
    have := omk_bt (f := f) (i := 6 * p + q) hn (by omega)
    rw [h, btL_0, show (6 * p + q) / 6 = p by omega, show (6 * p + q) % 6 = q by omega, decide_eq_true hp, decide_eq_true hq] at this
    simpa using this.symm
  · intro h
    apply bL_ext
    intro i hi
    rw [omk_bt hn hi, btL_0]
    by_cases h1 : i / 6 < n
    · by_cases h2 : i % 6 < n
      · rw [h _ h1 _ h2, Bool.and_false]
      · simp [h2]
    · simp [h1]
/-- as a number -/
def c2N (f : Nat → Nat → Bool) (n : Nat) : Nat → Nat
  | 0 => 0
  | p + 1 => c2N f n p + oa_cN (f p) n
theorem cnt2_row (f : Nat → Bool) (y : Nat) : ∀ j, it (fun q x => if f q = true then x + 1 else x) j (nI y) = nI (y + oa_cN f j)
  | 0 => rfl
  | j + 1 => by
    rw [it_succ, cnt2_row f y j]
    show _ = nI (y + (if f j = true then oa_cN f j + 1 else oa_cN f j))
    cases f j
    · rfl
    · rw [if_pos rfl, if_pos rfl, nI_1, Nat.add_assoc]
theorem cnt2_nI (f : Nat → Nat → Bool) (n : Nat) : cnt2 f n = nI (c2N f n n) := by
  unfold cnt2
  have : ∀ j, it (fun p x => it (fun q x => if f p q = true then x + 1 else x) n x) j 0 = nI (c2N f n j) := by
    intro j
    induction j with
    | zero => rfl
    | succ j ih =>
      rw [it_succ, ih, cnt2_row]
      rfl
  exact this n
theorem c2N_le (f : Nat → Nat → Bool) (n : Nat) : ∀ j, c2N f n j ≤ j * n
  | 0 => Nat.zero_le _
  | j + 1 => by
    have h1 := c2N_le f n j
    have h2 := oa_cN_le (f j) n
    unfold c2N
    rw [Nat.add_mul, Nat.one_mul]
    omega
theorem oa_cN_0 {f : Nat → Bool} : ∀ {n : Nat}, oa_cN f n = 0 ↔ ∀ k, k < n → f k = false
  | 0 => ⟨fun _ k hk => absurd hk (Nat.not_lt_zero k), fun _ => rfl⟩
  | n + 1 => by
    unfold oa_cN
    cases h : f n
    · rw [if_neg (by decide), oa_cN_0]
      constructor
      · intro g k hk
        by_cases e : k = n
        · rw [e]; exact h
        · exact g k (by omega)
      · intro g k hk
        exact g k (by omega)
    · rw [if_pos rfl]
      constructor
      · intro g; omega
      · intro g
        rw [g n (by omega)] at h
        cases h
theorem c2N_0 {f : Nat → Nat → Bool} {n : Nat} : ∀ j, c2N f n j = 0 ↔ ∀ p, p < j → ∀ q, q < n → f p q = false
  | 0 => ⟨fun _ k hk => absurd hk (Nat.not_lt_zero k), fun _ => rfl⟩
  | j + 1 => by
    unfold c2N
    constructor
    · intro g p hp q hq
      by_cases e : p = j
      · rw [e]; exact oa_cN_0.mp (by omega) q hq
      · exact (c2N_0 j).mp (by omega) p (by omega) q hq
    · intro g
      have h1 := (c2N_0 (f := f) (n := n) j).mpr (fun p hp q hq => g p (by omega) q hq)
      have h2 : oa_cN (f j) n = 0 := oa_cN_0.mpr (fun q hq => g j (by omega) q hq)
      omega
theorem cnt2_0 {f : Nat → Nat → Bool} {n : Nat} (hn : n ≤ 6) : cnt2 f n = 0 ↔ ∀ p, p < n → ∀ q, q < n → f p q = false := by
  rw [cnt2_nI, ← c2N_0 n]
  have := c2N_le f n n
  have h36 : n * n ≤ 6 * 6 := Nat.mul_le_mul hn hn
  exact nI_eq (b := 0) (by omega) (by omega)
section OP
variable {n : Nat} {R G P : oa_P} {V : oa_I2}
/-- open with a guard of cost c for g -/
def opg (R P : oa_P) (n : Nat) (m : Nat → Nat → Bool) (g : Int32) (c : Int32) (p q : Nat) : Bool := !decide (q = p) && decide ((if nI q = g then c else 0) < val R P q (m p) n)
theorem ct_open_in {g c x : Int32} {p : Nat} {m : Nat → Bool} {k2 : Int64 → Int32 → Option Int64} (h : CT n R P V) (hp : p < n) (hx : x = oa_mk m n) (mm : Nat → Nat → Bool) (hm : mm p = m) (y : Int64) : l_X5_openWrongsGuarded_25 V g c (nI p) x k2 oa_fu y 0 = k2 (it (fun q x => if opg R P n mm g c p q = true then x ||| bitL (6 * p + q) else x) n y) (nI (p + 1)) := by
  have h6 := h.1
  unfold l_X5_openWrongsGuarded_25
  refine oa_for (fun i => (it (fun q x => if opg R P n mm g c p q = true then x ||| bitL (6 * p + q) else x) i y, nI i)) n rfl ?_ ?_ oa_fu (by rw [oa_fu_eq]; omega)
  · intro i hi k
    rw [it_succ]
    unfold opg
    rw [hm]
    have hv : f_X5_value V (nI i) x = some (val R P i m n) := by
      rw [hx, ct_value h hi]
      exact congrArg some (val_cong fun r hr => bt_mk (by omega) hr)
    by_cases e : i = p
    · simp (disch := (first | omega | assumption | decide)) only [b_X5_openWrongsGuarded_25, h.2.1, oa_ut, oa_bs, oa_lt, oa_ile, oa_inle, oa_ilt, oa_inlt, oa_ieq, oa_ineq, oa_rd_nI, oa_wr_nI, oa_rd_0, oa_rd_1, oa_wr_0, oa_wr_1, oa_rdL_nI, oa_wrL_nI, oa_bi_if0, oa_bi_if1, oa_zc_bi, oa_if_b0, oa_if_b1, nI_1, nI_add, pk_mul, Nat.add_assoc, Int32.add_zero, Int32.sub_zero, Int32.or_zero, Int32.and_neg_one, va_up_s, va_up_n, upd_s, oa_up2, ite_self, if_true, if_false, oa_10, oa_01, oa_neg4, oa_ifno, oa_l2, oa_l3, oa_l4, oa_l5, oa_l6, oa_l7, oa_l8, oa_l9, oa_l10, oa_l12, oa_l15, oa_l16, oa_l20, oa_l32, oa_l40, oa_l42, oa_l48, oa_l64, oa_l90, oa_l96, oa_l97, oa_l98, oa_l99, oa_l100, oa_l120, oa_l360, oa_l450, oa_l457, oa_l458, oa_l480, oa_l528]
      simp [e]
    · by_cases eg : nI i = g
      · simp (disch := (first | omega | assumption | decide)) only [b_X5_openWrongsGuarded_25, b_X5_openWrongsGuarded_60, h.2.1, hv, if_pos eg, decide_eq_false e, Bool.not_false, Bool.true_and, decide_eq_true_eq, oa_ut, oa_bs, oa_lt, oa_ile, oa_inle, oa_ilt, oa_inlt, oa_ieq, oa_ineq, oa_rd_nI, oa_wr_nI, oa_rd_0, oa_rd_1, oa_wr_0, oa_wr_1, oa_rdL_nI, oa_wrL_nI, oa_bi_if0, oa_bi_if1, oa_zc_bi, oa_if_b0, oa_if_b1, nI_1, nI_add, pk_mul, Nat.add_assoc, Int32.add_zero, Int32.sub_zero, Int32.or_zero, Int32.and_neg_one, va_up_s, va_up_n, upd_s, oa_up2, ite_self, if_true, if_false, oa_10, oa_01, oa_neg4, oa_ifno, oa_l2, oa_l3, oa_l4, oa_l5, oa_l6, oa_l7, oa_l8, oa_l9, oa_l10, oa_l12, oa_l15, oa_l16, oa_l20, oa_l32, oa_l40, oa_l42, oa_l48, oa_l64, oa_l90, oa_l96, oa_l97, oa_l98, oa_l99, oa_l100, oa_l120, oa_l360, oa_l450, oa_l457, oa_l458, oa_l480, oa_l528]
        by_cases l : c < val R P i m n
        · rw [if_neg (Int32.not_le.mpr l), if_pos l]; rfl
        · rw [if_pos (Int32.not_lt.mp l), if_neg l]
      · simp (disch := (first | omega | assumption | decide)) only [b_X5_openWrongsGuarded_25, b_X5_openWrongsGuarded_60, h.2.1, hv, if_neg eg, decide_eq_false e, Bool.not_false, Bool.true_and, decide_eq_true_eq, oa_ut, oa_bs, oa_lt, oa_ile, oa_inle, oa_ilt, oa_inlt, oa_ieq, oa_ineq, oa_rd_nI, oa_wr_nI, oa_rd_0, oa_rd_1, oa_wr_0, oa_wr_1, oa_rdL_nI, oa_wrL_nI, oa_bi_if0, oa_bi_if1, oa_zc_bi, oa_if_b0, oa_if_b1, nI_1, nI_add, pk_mul, Nat.add_assoc, Int32.add_zero, Int32.sub_zero, Int32.or_zero, Int32.and_neg_one, va_up_s, va_up_n, upd_s, oa_up2, ite_self, if_true, if_false, oa_10, oa_01, oa_neg4, oa_ifno, oa_l2, oa_l3, oa_l4, oa_l5, oa_l6, oa_l7, oa_l8, oa_l9, oa_l10, oa_l12, oa_l15, oa_l16, oa_l20, oa_l32, oa_l40, oa_l42, oa_l48, oa_l64, oa_l90, oa_l96, oa_l97, oa_l98, oa_l99, oa_l100, oa_l120, oa_l360, oa_l450, oa_l457, oa_l458, oa_l480, oa_l528]
        by_cases l : 0 < val R P i m n
        · rw [if_neg (Int32.not_le.mpr l), if_pos l]; rfl
        · rw [if_pos (Int32.not_lt.mp l), if_neg l]
  · intro k
    simp (disch := (first | omega | assumption | decide)) only [b_X5_openWrongsGuarded_25, h.2.1, oa_ut, oa_bs, oa_lt, oa_ile, oa_inle, oa_ilt, oa_inlt, oa_ieq, oa_ineq, oa_rd_nI, oa_wr_nI, oa_rd_0, oa_rd_1, oa_wr_0, oa_wr_1, oa_rdL_nI, oa_wrL_nI, oa_bi_if0, oa_bi_if1, oa_zc_bi, oa_if_b0, oa_if_b1, nI_1, nI_add, pk_mul, Nat.add_assoc, Int32.add_zero, Int32.sub_zero, Int32.or_zero, Int32.and_neg_one, va_up_s, va_up_n, upd_s, oa_up2, ite_self, if_true, if_false, oa_10, oa_01, oa_neg4, oa_ifno, oa_l2, oa_l3, oa_l4, oa_l5, oa_l6, oa_l7, oa_l8, oa_l9, oa_l10, oa_l12, oa_l15, oa_l16, oa_l20, oa_l32, oa_l40, oa_l42, oa_l48, oa_l64, oa_l90, oa_l96, oa_l97, oa_l98, oa_l99, oa_l100, oa_l120, oa_l360, oa_l450, oa_l457, oa_l458, oa_l480, oa_l528]
theorem ct_open {g c : Int32} {m : Nat → Nat → Bool} (h : CT n R P V) (hm : ∀ p, p < n → f_X5_ableAsSeen V (nI p) = some (oa_mk (m p) n)) : f_X5_openWrongsGuarded V g c = some (omk (opg R P n m g c) n) := by
  have h6 := h.1
  unfold f_X5_openWrongsGuarded l_X5_openWrongsGuarded_5
  refine oa_for (fun i => (it (fun p x => it (fun q x => if opg R P n m g c p q = true then x ||| bitL (6 * p + q) else x) n x) i 0, nI i)) n rfl ?_ ?_ oa_fu (by rw [oa_fu_eq]; omega)
  · intro i hi k
    have := fun k2 y => ct_open_in (g := g) (c := c) (x := oa_mk (m i) n) (k2 := k2) h hi rfl m rfl y
    simp (disch := (first | omega | assumption | decide)) only [b_X5_openWrongsGuarded_5, h.2.1, hm i hi, this, it_succ, oa_ut, oa_bs, oa_lt, oa_ile, oa_inle, oa_ilt, oa_inlt, oa_ieq, oa_ineq, oa_rd_nI, oa_wr_nI, oa_rd_0, oa_rd_1, oa_wr_0, oa_wr_1, oa_rdL_nI, oa_wrL_nI, oa_bi_if0, oa_bi_if1, oa_zc_bi, oa_if_b0, oa_if_b1, nI_1, nI_add, pk_mul, Nat.add_assoc, Int32.add_zero, Int32.sub_zero, Int32.or_zero, Int32.and_neg_one, va_up_s, va_up_n, upd_s, oa_up2, ite_self, if_true, if_false, oa_10, oa_01, oa_neg4, oa_ifno, oa_l2, oa_l3, oa_l4, oa_l5, oa_l6, oa_l7, oa_l8, oa_l9, oa_l10, oa_l12, oa_l15, oa_l16, oa_l20, oa_l32, oa_l40, oa_l42, oa_l48, oa_l64, oa_l90, oa_l96, oa_l97, oa_l98, oa_l99, oa_l100, oa_l120, oa_l360, oa_l450, oa_l457, oa_l458, oa_l480, oa_l528]
  · intro k
    simp (disch := (first | omega | assumption | decide)) only [b_X5_openWrongsGuarded_5, h.2.1, oa_ut, oa_bs, oa_lt, oa_ile, oa_inle, oa_ilt, oa_inlt, oa_ieq, oa_ineq, oa_rd_nI, oa_wr_nI, oa_rd_0, oa_rd_1, oa_wr_0, oa_wr_1, oa_rdL_nI, oa_wrL_nI, oa_bi_if0, oa_bi_if1, oa_zc_bi, oa_if_b0, oa_if_b1, nI_1, nI_add, pk_mul, Nat.add_assoc, Int32.add_zero, Int32.sub_zero, Int32.or_zero, Int32.and_neg_one, va_up_s, va_up_n, upd_s, oa_up2, ite_self, if_true, if_false, oa_10, oa_01, oa_neg4, oa_ifno, oa_l2, oa_l3, oa_l4, oa_l5, oa_l6, oa_l7, oa_l8, oa_l9, oa_l10, oa_l12, oa_l15, oa_l16, oa_l20, oa_l32, oa_l40, oa_l42, oa_l48, oa_l64, oa_l90, oa_l96, oa_l97, oa_l98, oa_l99, oa_l100, oa_l120, oa_l360, oa_l450, oa_l457, oa_l458, oa_l480, oa_l528]
    rfl
def opn (R P : oa_P) (n : Nat) (p q : Nat) : Bool := !decide (q = p) && decide (0 < val R P q (abs' R P p) n)
theorem cv_openG {g c : Int32} (h : CV n R G P V) : f_X5_openWrongsGuarded V g c = some (omk (opg R P n (abs' R P) g c) n) := by
  have := h.1.1
  exact ct_open h.1 (fun p hp => cv_ableAsSeen h (by omega))
theorem ct_openW {m : Nat → Nat → Bool} (h : CT n R P V) (hm : ∀ p, p < n → f_X5_ableAsSeen V (nI p) = some (oa_mk (m p) n)) : f_X5_openWrongs V = some (omk (fun p q => !decide (q = p) && decide (0 < val R P q (m p) n)) n) := by
  have h6 := h.1
  unfold f_X5_openWrongs
  rw [ct_open h hm]
  refine congrArg some (omk_cong fun p hp q hq => ?_)
  unfold opg
  rw [ite_self]
theorem cv_openW (h : CV n R G P V) : f_X5_openWrongs V = some (omk (opn R P n) n) := by
  have := h.1.1
  exact ct_openW h.1 (fun p hp => cv_ableAsSeen h (by omega))
end OP
section OPM
variable {M : oa_I2} {K : oa_J2} {n : Nat}
theorem md_openCount_in {a p y : Nat} {k2 : Int32 → Int32 → Option Int32} (x0 : Int32) (hn : M 1 99 = nI n) (h6 : n ≤ 6) (ha : a ≤ 480) (hp : p < n) : l_X7_openCount_23 M K (nI a) (oa_mk (sn (M 2) (oa_pg M a)) n) (nI p) k2 oa_fu x0 0 = k2 (it (fun q x => if opn (M 2) (oa_pg M a) n p q = true then x + 1 else x) n x0) (nI (p + 1)) := by
  unfold l_X7_openCount_23
  refine oa_for (fun i => (it (fun q x => if opn (M 2) (oa_pg M a) n p q = true then x + 1 else x) i x0, nI i)) n rfl ?_ ?_ oa_fu (by rw [oa_fu_eq]; omega)
  · intro i hi k
    rw [it_succ]
    unfold opn
    by_cases e : i = p
    · simp (disch := (first | omega | assumption | decide)) only [b_X7_openCount_23, md_many hn, oa_ut, oa_bs, oa_lt, oa_ile, oa_inle, oa_ilt, oa_inlt, oa_ieq, oa_ineq, oa_rd_nI, oa_wr_nI, oa_rd_0, oa_rd_1, oa_wr_0, oa_wr_1, oa_rdL_nI, oa_wrL_nI, oa_bi_if0, oa_bi_if1, oa_zc_bi, oa_if_b0, oa_if_b1, nI_1, nI_add, pk_mul, Nat.add_assoc, Int32.add_zero, Int32.sub_zero, Int32.or_zero, Int32.and_neg_one, va_up_s, va_up_n, upd_s, oa_up2, ite_self, if_true, if_false, oa_10, oa_01, oa_neg4, oa_ifno, oa_l2, oa_l3, oa_l4, oa_l5, oa_l6, oa_l7, oa_l8, oa_l9, oa_l10, oa_l12, oa_l15, oa_l16, oa_l20, oa_l32, oa_l40, oa_l42, oa_l48, oa_l64, oa_l90, oa_l96, oa_l97, oa_l98, oa_l99, oa_l100, oa_l120, oa_l360, oa_l450, oa_l457, oa_l458, oa_l480, oa_l528]
      simp [e]
    · simp (disch := (first | omega | assumption | decide)) only [b_X7_openCount_23, md_many hn, md_worthBy hn, val_abs h6, decide_eq_false e, Bool.not_false, Bool.true_and, decide_eq_true_eq, oa_ut, oa_bs, oa_lt, oa_ile, oa_inle, oa_ilt, oa_inlt, oa_ieq, oa_ineq, oa_rd_nI, oa_wr_nI, oa_rd_0, oa_rd_1, oa_wr_0, oa_wr_1, oa_rdL_nI, oa_wrL_nI, oa_bi_if0, oa_bi_if1, oa_zc_bi, oa_if_b0, oa_if_b1, nI_1, nI_add, pk_mul, Nat.add_assoc, Int32.add_zero, Int32.sub_zero, Int32.or_zero, Int32.and_neg_one, va_up_s, va_up_n, upd_s, oa_up2, ite_self, if_true, if_false, oa_10, oa_01, oa_neg4, oa_ifno, oa_l2, oa_l3, oa_l4, oa_l5, oa_l6, oa_l7, oa_l8, oa_l9, oa_l10, oa_l12, oa_l15, oa_l16, oa_l20, oa_l32, oa_l40, oa_l42, oa_l48, oa_l64, oa_l90, oa_l96, oa_l97, oa_l98, oa_l99, oa_l100, oa_l120, oa_l360, oa_l450, oa_l457, oa_l458, oa_l480, oa_l528]
      by_cases l : 0 < val (M 2) (oa_pg M a) i (abs' (M 2) (oa_pg M a) p) n
      · rw [if_neg (Int32.not_le.mpr l), if_pos l]
      · rw [if_pos (Int32.not_lt.mp l), if_neg l]
  · intro k
    simp (disch := (first | omega | assumption | decide)) only [b_X7_openCount_23, md_many hn, oa_ut, oa_bs, oa_lt, oa_ile, oa_inle, oa_ilt, oa_inlt, oa_ieq, oa_ineq, oa_rd_nI, oa_wr_nI, oa_rd_0, oa_rd_1, oa_wr_0, oa_wr_1, oa_rdL_nI, oa_wrL_nI, oa_bi_if0, oa_bi_if1, oa_zc_bi, oa_if_b0, oa_if_b1, nI_1, nI_add, pk_mul, Nat.add_assoc, Int32.add_zero, Int32.sub_zero, Int32.or_zero, Int32.and_neg_one, va_up_s, va_up_n, upd_s, oa_up2, ite_self, if_true, if_false, oa_10, oa_01, oa_neg4, oa_ifno, oa_l2, oa_l3, oa_l4, oa_l5, oa_l6, oa_l7, oa_l8, oa_l9, oa_l10, oa_l12, oa_l15, oa_l16, oa_l20, oa_l32, oa_l40, oa_l42, oa_l48, oa_l64, oa_l90, oa_l96, oa_l97, oa_l98, oa_l99, oa_l100, oa_l120, oa_l360, oa_l450, oa_l457, oa_l458, oa_l480, oa_l528]
theorem md_openCount {a : Nat} (hn : M 1 99 = nI n) (h6 : n ≤ 6) (ha : a ≤ 480) : f_X7_openCount M K (nI a) = some (cnt2 (opn (M 2) (oa_pg M a) n) n) := by
  unfold f_X7_openCount l_X7_openCount_11
  simp (disch := (first | omega | assumption | decide)) only [md_seenFree hn, oa_ut, oa_bs, oa_lt, oa_ile, oa_inle, oa_ilt, oa_inlt, oa_ieq, oa_ineq, oa_rd_nI, oa_wr_nI, oa_rd_0, oa_rd_1, oa_wr_0, oa_wr_1, oa_rdL_nI, oa_wrL_nI, oa_bi_if0, oa_bi_if1, oa_zc_bi, oa_if_b0, oa_if_b1, nI_1, nI_add, pk_mul, Nat.add_assoc, Int32.add_zero, Int32.sub_zero, Int32.or_zero, Int32.and_neg_one, va_up_s, va_up_n, upd_s, oa_up2, ite_self, if_true, if_false, oa_10, oa_01, oa_neg4, oa_ifno, oa_l2, oa_l3, oa_l4, oa_l5, oa_l6, oa_l7, oa_l8, oa_l9, oa_l10, oa_l12, oa_l15, oa_l16, oa_l20, oa_l32, oa_l40, oa_l42, oa_l48, oa_l64, oa_l90, oa_l96, oa_l97, oa_l98, oa_l99, oa_l100, oa_l120, oa_l360, oa_l450, oa_l457, oa_l458, oa_l480, oa_l528]
  refine oa_for (fun i => (it (fun p x => it (fun q x => if opn (M 2) (oa_pg M a) n p q = true then x + 1 else x) n x) i 0, nI i)) n rfl ?_ ?_ oa_fu (by rw [oa_fu_eq]; omega)
  · intro i hi k
    have := fun k2 x0 => md_openCount_in (K := K) (k2 := k2) (y := 0) x0 hn h6 ha hi
    simp (disch := (first | omega | assumption | decide)) only [b_X7_openCount_11, md_many hn, this, it_succ, oa_ut, oa_bs, oa_lt, oa_ile, oa_inle, oa_ilt, oa_inlt, oa_ieq, oa_ineq, oa_rd_nI, oa_wr_nI, oa_rd_0, oa_rd_1, oa_wr_0, oa_wr_1, oa_rdL_nI, oa_wrL_nI, oa_bi_if0, oa_bi_if1, oa_zc_bi, oa_if_b0, oa_if_b1, nI_1, nI_add, pk_mul, Nat.add_assoc, Int32.add_zero, Int32.sub_zero, Int32.or_zero, Int32.and_neg_one, va_up_s, va_up_n, upd_s, oa_up2, ite_self, if_true, if_false, oa_10, oa_01, oa_neg4, oa_ifno, oa_l2, oa_l3, oa_l4, oa_l5, oa_l6, oa_l7, oa_l8, oa_l9, oa_l10, oa_l12, oa_l15, oa_l16, oa_l20, oa_l32, oa_l40, oa_l42, oa_l48, oa_l64, oa_l90, oa_l96, oa_l97, oa_l98, oa_l99, oa_l100, oa_l120, oa_l360, oa_l450, oa_l457, oa_l458, oa_l480, oa_l528]
  · intro k
    simp (disch := (first | omega | assumption | decide)) only [b_X7_openCount_11, md_many hn, oa_ut, oa_bs, oa_lt, oa_ile, oa_inle, oa_ilt, oa_inlt, oa_ieq, oa_ineq, oa_rd_nI, oa_wr_nI, oa_rd_0, oa_rd_1, oa_wr_0, oa_wr_1, oa_rdL_nI, oa_wrL_nI, oa_bi_if0, oa_bi_if1, oa_zc_bi, oa_if_b0, oa_if_b1, nI_1, nI_add, pk_mul, Nat.add_assoc, Int32.add_zero, Int32.sub_zero, Int32.or_zero, Int32.and_neg_one, va_up_s, va_up_n, upd_s, oa_up2, ite_self, if_true, if_false, oa_10, oa_01, oa_neg4, oa_ifno, oa_l2, oa_l3, oa_l4, oa_l5, oa_l6, oa_l7, oa_l8, oa_l9, oa_l10, oa_l12, oa_l15, oa_l16, oa_l20, oa_l32, oa_l40, oa_l42, oa_l48, oa_l64, oa_l90, oa_l96, oa_l97, oa_l98, oa_l99, oa_l100, oa_l120, oa_l360, oa_l450, oa_l457, oa_l458, oa_l480, oa_l528]
    rfl
theorem md_openCount0 (hn : M 1 99 = nI n) (h6 : n ≤ 6) : f_X7_openCount M K 0 = some (cnt2 (opn (M 2) (M 1) n) n) := by
  have := md_openCount (M := M) (K := K) (a := 0) hn h6 (by omega)
  rwa [oa_pg0] at this
theorem md_open_in {p : Nat} {k2 : Int64 → Int32 → Option Int64} (x0 : Int64) (hn : M 1 99 = nI n) (h6 : n ≤ 6) (hp : p < n) : l_X7_open_23 M K (oa_mk (sn (M 2) (M 1)) n) (nI p) k2 oa_fu x0 0 = k2 (it (fun q x => if opn (M 2) (M 1) n p q = true then x ||| bitL (6 * p + q) else x) n x0) (nI (p + 1)) := by
  unfold l_X7_open_23
  refine oa_for (fun i => (it (fun q x => if opn (M 2) (M 1) n p q = true then x ||| bitL (6 * p + q) else x) i x0, nI i)) n rfl ?_ ?_ oa_fu (by rw [oa_fu_eq]; omega)
  · intro i hi k
    rw [it_succ]
    unfold opn
    by_cases e : i = p
    · simp (disch := (first | omega | assumption | decide)) only [b_X7_open_23, md_many hn, Int64.or_zero, oa_ut, oa_bs, oa_lt, oa_ile, oa_inle, oa_ilt, oa_inlt, oa_ieq, oa_ineq, oa_rd_nI, oa_wr_nI, oa_rd_0, oa_rd_1, oa_wr_0, oa_wr_1, oa_rdL_nI, oa_wrL_nI, oa_bi_if0, oa_bi_if1, oa_zc_bi, oa_if_b0, oa_if_b1, nI_1, nI_add, pk_mul, Nat.add_assoc, Int32.add_zero, Int32.sub_zero, Int32.or_zero, Int32.and_neg_one, va_up_s, va_up_n, upd_s, oa_up2, ite_self, if_true, if_false, oa_10, oa_01, oa_neg4, oa_ifno, oa_l2, oa_l3, oa_l4, oa_l5, oa_l6, oa_l7, oa_l8, oa_l9, oa_l10, oa_l12, oa_l15, oa_l16, oa_l20, oa_l32, oa_l40, oa_l42, oa_l48, oa_l64, oa_l90, oa_l96, oa_l97, oa_l98, oa_l99, oa_l100, oa_l120, oa_l360, oa_l450, oa_l457, oa_l458, oa_l480, oa_l528]
      simp [e]
    · simp (disch := (first | omega | assumption | decide)) only [b_X7_open_23, md_many hn, md_worthBy0 hn, val_abs h6, decide_eq_false e, Bool.not_false, Bool.true_and, decide_eq_true_eq, Int64.or_zero, oa_ut, oa_bs, oa_lt, oa_ile, oa_inle, oa_ilt, oa_inlt, oa_ieq, oa_ineq, oa_rd_nI, oa_wr_nI, oa_rd_0, oa_rd_1, oa_wr_0, oa_wr_1, oa_rdL_nI, oa_wrL_nI, oa_bi_if0, oa_bi_if1, oa_zc_bi, oa_if_b0, oa_if_b1, nI_1, nI_add, pk_mul, Nat.add_assoc, Int32.add_zero, Int32.sub_zero, Int32.or_zero, Int32.and_neg_one, va_up_s, va_up_n, upd_s, oa_up2, ite_self, if_true, if_false, oa_10, oa_01, oa_neg4, oa_ifno, oa_l2, oa_l3, oa_l4, oa_l5, oa_l6, oa_l7, oa_l8, oa_l9, oa_l10, oa_l12, oa_l15, oa_l16, oa_l20, oa_l32, oa_l40, oa_l42, oa_l48, oa_l64, oa_l90, oa_l96, oa_l97, oa_l98, oa_l99, oa_l100, oa_l120, oa_l360, oa_l450, oa_l457, oa_l458, oa_l480, oa_l528]
      by_cases l : 0 < val (M 2) (M 1) i (abs' (M 2) (M 1) p) n
      · rw [if_neg (Int32.not_le.mpr l), if_pos l]; rfl
      · rw [if_pos (Int32.not_lt.mp l), if_neg l]
  · intro k
    simp (disch := (first | omega | assumption | decide)) only [b_X7_open_23, md_many hn, oa_ut, oa_bs, oa_lt, oa_ile, oa_inle, oa_ilt, oa_inlt, oa_ieq, oa_ineq, oa_rd_nI, oa_wr_nI, oa_rd_0, oa_rd_1, oa_wr_0, oa_wr_1, oa_rdL_nI, oa_wrL_nI, oa_bi_if0, oa_bi_if1, oa_zc_bi, oa_if_b0, oa_if_b1, nI_1, nI_add, pk_mul, Nat.add_assoc, Int32.add_zero, Int32.sub_zero, Int32.or_zero, Int32.and_neg_one, va_up_s, va_up_n, upd_s, oa_up2, ite_self, if_true, if_false, oa_10, oa_01, oa_neg4, oa_ifno, oa_l2, oa_l3, oa_l4, oa_l5, oa_l6, oa_l7, oa_l8, oa_l9, oa_l10, oa_l12, oa_l15, oa_l16, oa_l20, oa_l32, oa_l40, oa_l42, oa_l48, oa_l64, oa_l90, oa_l96, oa_l97, oa_l98, oa_l99, oa_l100, oa_l120, oa_l360, oa_l450, oa_l457, oa_l458, oa_l480, oa_l528]
theorem md_open (hn : M 1 99 = nI n) (h6 : n ≤ 6) : f_X7_open M K = some (omk (opn (M 2) (M 1) n) n) := by
  unfold f_X7_open l_X7_open_11
  simp (disch := (first | omega | assumption | decide)) only [md_seenFree0 hn, oa_ut, oa_bs, oa_lt, oa_ile, oa_inle, oa_ilt, oa_inlt, oa_ieq, oa_ineq, oa_rd_nI, oa_wr_nI, oa_rd_0, oa_rd_1, oa_wr_0, oa_wr_1, oa_rdL_nI, oa_wrL_nI, oa_bi_if0, oa_bi_if1, oa_zc_bi, oa_if_b0, oa_if_b1, nI_1, nI_add, pk_mul, Nat.add_assoc, Int32.add_zero, Int32.sub_zero, Int32.or_zero, Int32.and_neg_one, va_up_s, va_up_n, upd_s, oa_up2, ite_self, if_true, if_false, oa_10, oa_01, oa_neg4, oa_ifno, oa_l2, oa_l3, oa_l4, oa_l5, oa_l6, oa_l7, oa_l8, oa_l9, oa_l10, oa_l12, oa_l15, oa_l16, oa_l20, oa_l32, oa_l40, oa_l42, oa_l48, oa_l64, oa_l90, oa_l96, oa_l97, oa_l98, oa_l99, oa_l100, oa_l120, oa_l360, oa_l450, oa_l457, oa_l458, oa_l480, oa_l528]
  refine oa_for (fun i => (it (fun p x => it (fun q x => if opn (M 2) (M 1) n p q = true then x ||| bitL (6 * p + q) else x) n x) i 0, nI i)) n rfl ?_ ?_ oa_fu (by rw [oa_fu_eq]; omega)
  · intro i hi k
    have := fun k2 x0 => md_open_in (K := K) (k2 := k2) x0 hn h6 hi
    simp (disch := (first | omega | assumption | decide)) only [b_X7_open_11, md_many hn, this, it_succ, oa_ut, oa_bs, oa_lt, oa_ile, oa_inle, oa_ilt, oa_inlt, oa_ieq, oa_ineq, oa_rd_nI, oa_wr_nI, oa_rd_0, oa_rd_1, oa_wr_0, oa_wr_1, oa_rdL_nI, oa_wrL_nI, oa_bi_if0, oa_bi_if1, oa_zc_bi, oa_if_b0, oa_if_b1, nI_1, nI_add, pk_mul, Nat.add_assoc, Int32.add_zero, Int32.sub_zero, Int32.or_zero, Int32.and_neg_one, va_up_s, va_up_n, upd_s, oa_up2, ite_self, if_true, if_false, oa_10, oa_01, oa_neg4, oa_ifno, oa_l2, oa_l3, oa_l4, oa_l5, oa_l6, oa_l7, oa_l8, oa_l9, oa_l10, oa_l12, oa_l15, oa_l16, oa_l20, oa_l32, oa_l40, oa_l42, oa_l48, oa_l64, oa_l90, oa_l96, oa_l97, oa_l98, oa_l99, oa_l100, oa_l120, oa_l360, oa_l450, oa_l457, oa_l458, oa_l480, oa_l528]
  · intro k
    simp (disch := (first | omega | assumption | decide)) only [b_X7_open_11, md_many hn, oa_ut, oa_bs, oa_lt, oa_ile, oa_inle, oa_ilt, oa_inlt, oa_ieq, oa_ineq, oa_rd_nI, oa_wr_nI, oa_rd_0, oa_rd_1, oa_wr_0, oa_wr_1, oa_rdL_nI, oa_wrL_nI, oa_bi_if0, oa_bi_if1, oa_zc_bi, oa_if_b0, oa_if_b1, nI_1, nI_add, pk_mul, Nat.add_assoc, Int32.add_zero, Int32.sub_zero, Int32.or_zero, Int32.and_neg_one, va_up_s, va_up_n, upd_s, oa_up2, ite_self, if_true, if_false, oa_10, oa_01, oa_neg4, oa_ifno, oa_l2, oa_l3, oa_l4, oa_l5, oa_l6, oa_l7, oa_l8, oa_l9, oa_l10, oa_l12, oa_l15, oa_l16, oa_l20, oa_l32, oa_l40, oa_l42, oa_l48, oa_l64, oa_l90, oa_l96, oa_l97, oa_l98, oa_l99, oa_l100, oa_l120, oa_l360, oa_l450, oa_l457, oa_l458, oa_l480, oa_l528]
    rfl
end OPM
section C8
variable {B : oa_I3} {J : oa_J2} {M : oa_I2} {K : oa_J2}
theorem c_open (h : Rel B M) : ∃ a, f_X6_open B J = some a ∧ f_X7_open M K = some a := by
  obtain ⟨n, L, hR, ⟨cv, hp, h99, tb⟩, hI, hT, hF, hS, hC⟩ := h
  refine ⟨_, ?_, md_open h99 cv.1.1⟩
  unfold f_X6_open
  rw [cv_openW cv]; rfl
theorem lg_0 (x : Int64) : lg_cmp x 0 = 0 ↔ x = 0 := by
  unfold lg_cmp
  constructor
  · intro h
    by_cases g : x > 0
    · rw [if_pos g] at h; exact absurd h (by decide)
    · rw [if_neg g] at h
      by_cases e : x = 0
      · exact e
      · rw [if_neg e] at h; exact absurd h (by decide)
  · intro h
    subst h
    decide
theorem c_now (h : Rel B M) (x : Int32) : ∃ a, f_X6_now B J x = some a ∧ f_X7_now M K x = some a := by
  obtain ⟨n, L, hR, ⟨cv, hp, h99, tb⟩, hI, hT, hF, hS, hC⟩ := h
  have h6 := cv.1.1
  have hsum : f_X5_allAngers (B 0) = some (it (fun r s => s + oa_cn (an (M 1) r) 7) n 0) := by
    unfold f_X5_allAngers l_X5_allAngers_4
    refine oa_for (fun i => (it (fun r s => s + oa_cn (an (M 1) r) 7) i 0, nI i)) n rfl ?_ ?_ oa_fu (by rw [oa_fu_eq]; omega)
    · intro i hi k
      simp (disch := (first | omega | assumption | decide)) only [b_X5_allAngers_4, cv.1.2.1, cv_angersOf cv, it_succ, oa_ut, oa_bs, oa_lt, oa_ile, oa_inle, oa_ilt, oa_inlt, oa_ieq, oa_ineq, oa_rd_nI, oa_wr_nI, oa_rd_0, oa_rd_1, oa_wr_0, oa_wr_1, oa_rdL_nI, oa_wrL_nI, oa_bi_if0, oa_bi_if1, oa_zc_bi, oa_if_b0, oa_if_b1, nI_1, nI_add, pk_mul, Nat.add_assoc, Int32.add_zero, Int32.sub_zero, Int32.or_zero, Int32.and_neg_one, va_up_s, va_up_n, upd_s, oa_up2, ite_self, if_true, if_false, oa_10, oa_01, oa_neg4, oa_ifno, oa_l2, oa_l3, oa_l4, oa_l5, oa_l6, oa_l7, oa_l8, oa_l9, oa_l10, oa_l12, oa_l15, oa_l16, oa_l20, oa_l32, oa_l40, oa_l42, oa_l48, oa_l64, oa_l90, oa_l96, oa_l97, oa_l98, oa_l99, oa_l100, oa_l120, oa_l360, oa_l450, oa_l457, oa_l458, oa_l480, oa_l528]
    · intro k
      simp (disch := (first | omega | assumption | decide)) only [b_X5_allAngers_4, cv.1.2.1, oa_ut, oa_bs, oa_lt, oa_ile, oa_inle, oa_ilt, oa_inlt, oa_ieq, oa_ineq, oa_rd_nI, oa_wr_nI, oa_rd_0, oa_rd_1, oa_wr_0, oa_wr_1, oa_rdL_nI, oa_wrL_nI, oa_bi_if0, oa_bi_if1, oa_zc_bi, oa_if_b0, oa_if_b1, nI_1, nI_add, pk_mul, Nat.add_assoc, Int32.add_zero, Int32.sub_zero, Int32.or_zero, Int32.and_neg_one, va_up_s, va_up_n, upd_s, oa_up2, ite_self, if_true, if_false, oa_10, oa_01, oa_neg4, oa_ifno, oa_l2, oa_l3, oa_l4, oa_l5, oa_l6, oa_l7, oa_l8, oa_l9, oa_l10, oa_l12, oa_l15, oa_l16, oa_l20, oa_l32, oa_l40, oa_l42, oa_l48, oa_l64, oa_l90, oa_l96, oa_l97, oa_l98, oa_l99, oa_l100, oa_l120, oa_l360, oa_l450, oa_l457, oa_l458, oa_l480, oa_l528]
  have hm : f_X7_now M K x = b_X7_now_4 M K x (fun _ _ => none) (it (fun r s => s + oa_cn (an (M 1) r) 7) n 0) (nI n) := by
    unfold f_X7_now l_X7_now_4
    refine oa_for (fun i => (it (fun r s => s + oa_cn (an (M 1) r) 7) i 0, nI i)) n rfl ?_ ?_ oa_fu (by rw [oa_fu_eq]; omega)
    · intro i hi k
      simp (disch := (first | omega | assumption | decide)) only [b_X7_now_4, md_many h99, md_angers0, it_succ, oa_ut, oa_bs, oa_lt, oa_ile, oa_inle, oa_ilt, oa_inlt, oa_ieq, oa_ineq, oa_rd_nI, oa_wr_nI, oa_rd_0, oa_rd_1, oa_wr_0, oa_wr_1, oa_rdL_nI, oa_wrL_nI, oa_bi_if0, oa_bi_if1, oa_zc_bi, oa_if_b0, oa_if_b1, nI_1, nI_add, pk_mul, Nat.add_assoc, Int32.add_zero, Int32.sub_zero, Int32.or_zero, Int32.and_neg_one, va_up_s, va_up_n, upd_s, oa_up2, ite_self, if_true, if_false, oa_10, oa_01, oa_neg4, oa_ifno, oa_l2, oa_l3, oa_l4, oa_l5, oa_l6, oa_l7, oa_l8, oa_l9, oa_l10, oa_l12, oa_l15, oa_l16, oa_l20, oa_l32, oa_l40, oa_l42, oa_l48, oa_l64, oa_l90, oa_l96, oa_l97, oa_l98, oa_l99, oa_l100, oa_l120, oa_l360, oa_l450, oa_l457, oa_l458, oa_l480, oa_l528]
    · intro k
      simp (disch := (first | omega | assumption | decide)) only [b_X7_now_4, md_many h99, oa_ut, oa_bs, oa_lt, oa_ile, oa_inle, oa_ilt, oa_inlt, oa_ieq, oa_ineq, oa_rd_nI, oa_wr_nI, oa_rd_0, oa_rd_1, oa_wr_0, oa_wr_1, oa_rdL_nI, oa_wrL_nI, oa_bi_if0, oa_bi_if1, oa_zc_bi, oa_if_b0, oa_if_b1, nI_1, nI_add, pk_mul, Nat.add_assoc, Int32.add_zero, Int32.sub_zero, Int32.or_zero, Int32.and_neg_one, va_up_s, va_up_n, upd_s, oa_up2, ite_self, if_true, if_false, oa_10, oa_01, oa_neg4, oa_ifno, oa_l2, oa_l3, oa_l4, oa_l5, oa_l6, oa_l7, oa_l8, oa_l9, oa_l10, oa_l12, oa_l15, oa_l16, oa_l20, oa_l32, oa_l40, oa_l42, oa_l48, oa_l64, oa_l90, oa_l96, oa_l97, oa_l98, oa_l99, oa_l100, oa_l120, oa_l360, oa_l450, oa_l457, oa_l458, oa_l480, oa_l528]
  rw [hm]
  unfold f_X6_now
  have w1 : B 0 5 1 = M 1 96 := by rw [cv.2.2.2.1, Int32.add_zero]
  have w2 : B 0 5 2 = M 1 97 := by rw [cv.2.2.2.2.1, Int32.add_zero]
  have w3 : B 0 5 3 = M 1 98 := by rw [cv.2.2.2.2.2, Int32.add_zero]
  simp (disch := (first | omega | assumption | decide)) only [b_X7_now_4, md_many h99, cv_free cv, md_freeOnes0 h99, cv_openW cv, md_openCount0 h99, hsum, w1, w2, w3, oa_ut, oa_bs, oa_lt, oa_ile, oa_inle, oa_ilt, oa_inlt, oa_ieq, oa_ineq, oa_rd_nI, oa_wr_nI, oa_rd_0, oa_rd_1, oa_wr_0, oa_wr_1, oa_rdL_nI, oa_wrL_nI, oa_bi_if0, oa_bi_if1, oa_zc_bi, oa_if_b0, oa_if_b1, nI_1, nI_add, pk_mul, Nat.add_assoc, Int32.add_zero, Int32.sub_zero, Int32.or_zero, Int32.and_neg_one, va_up_s, va_up_n, upd_s, oa_up2, ite_self, if_true, if_false, oa_10, oa_01, oa_neg4, oa_ifno, oa_l2, oa_l3, oa_l4, oa_l5, oa_l6, oa_l7, oa_l8, oa_l9, oa_l10, oa_l12, oa_l15, oa_l16, oa_l20, oa_l32, oa_l40, oa_l42, oa_l48, oa_l64, oa_l90, oa_l96, oa_l97, oa_l98, oa_l99, oa_l100, oa_l120, oa_l360, oa_l450, oa_l457, oa_l458, oa_l480, oa_l528]
  by_cases e0 : x = 0
  · rw [if_pos e0, if_pos e0]; exact ⟨_, rfl, rfl⟩
  rw [if_neg e0, if_neg e0]
  by_cases e1 : x = 1
  · rw [if_pos e1, if_pos e1]; exact ⟨_, rfl, rfl⟩
  rw [if_neg e1, if_neg e1]
  by_cases e2 : x = nI 2
  · rw [if_pos e2, if_pos e2]; exact ⟨_, rfl, rfl⟩
  rw [if_neg e2, if_neg e2]
  by_cases e3 : x = nI 3
  · rw [if_pos e3, if_pos e3]; exact ⟨_, rfl, rfl⟩
  rw [if_neg e3, if_neg e3]
  by_cases e4 : x = nI 4
  · rw [if_pos e4, if_pos e4]
    by_cases c : ∀ p, p < n → ∀ q, q < n → opn (M 2) (M 1) n p q = false
    · rw [if_pos ((lg_0 _).mpr ((omk_0 h6).mpr c)), if_pos ((cnt2_0 h6).mpr c)]; exact ⟨_, rfl, rfl⟩
    · rw [if_neg (fun d => c ((omk_0 h6).mp ((lg_0 _).mp d))), if_neg (fun d => c ((cnt2_0 h6).mp d))]; exact ⟨_, rfl, rfl⟩
  rw [if_neg e4, if_neg e4]
  by_cases e5 : x = nI 5
  · rw [if_pos e5]; exact ⟨_, rfl, rfl⟩
  rw [if_neg e5]
  exact ⟨_, rfl, rfl⟩
end C8
