/-! when it comes back -/
noncomputable def dcd (p : Prop) : Bool := @decide p (Classical.propDecidable p)
theorem dcd_t {p : Prop} (h : p) : dcd p = true := @decide_eq_true p (Classical.propDecidable p) h
theorem dcd_f {p : Prop} (h : ¬ p) : dcd p = false := @decide_eq_false p (Classical.propDecidable p) h
theorem dcd_c {p q : Prop} (h : p ↔ q) : dcd p = dcd q := by
  by_cases c : p
  · rw [dcd_t c, dcd_t (h.mp c)]
  · rw [dcd_f c, dcd_f (fun d => c (h.mpr d))]
def rwN (f : Nat → Nat) : Nat → Nat
  | 0 => 0
  | k + 1 => rwN f k * 16 + f k
theorem rwN_inj {f g : Nat → Nat} : ∀ k, (∀ p, p < k → f p < 16 ∧ g p < 16) → rwN f k = rwN g k → ∀ p, p < k → f p = g p
  | 0, _, _ => fun p hp => absurd hp (Nat.not_lt_zero p)
  | k + 1, h, e => by
    have h1 := h k (by omega)
    unfold rwN at e
    have e1 : rwN f k = rwN g k := by omega
    have e2 : f k = g k := by omega
    intro p hp
    by_cases c : p = k
    · rw [c]; exact e2
    · exact rwN_inj k (fun q hq => h q (by omega)) e1 p (by omega)
theorem rwN_lt {f : Nat → Nat} : ∀ k, (∀ p, p < k → f p < 16) → rwN f k < 16 ^ k
  | 0, _ => Nat.one_pos
  | k + 1, h => by
    have h1 := h k (by omega)
    have h2 := rwN_lt k (fun q hq => h q (by omega))
    unfold rwN
    rw [Nat.pow_succ]
    omega
theorem rwN_cong {f g : Nat → Nat} : ∀ k, (∀ p, p < k → f p = g p) → rwN f k = rwN g k
  | 0, _ => rfl
  | k + 1, h => by unfold rwN; rw [h k (by omega), rwN_cong k (fun q hq => h q (by omega))]
/-- the age, as a number -/
def agN (P : oa_P) (r p : Nat) : Nat := (P (48 + (7 * r + p))).toNatClampNeg
theorem agN_eq {n L : Nat} {P : oa_P} (h : PW n L P) (hL : L ≤ 9) {r p : Nat} (hr : r < 6) (hp : p < 7) : P (48 + (7 * r + p)) = nI (agN P r p) ∧ agN P r p < 16 := by
  obtain ⟨a, a1, a2, _⟩ := h r hr p hp
  unfold agN
  rw [a1, nI_clamp (by omega)]
  exact ⟨rfl, by omega⟩
/-- all angers are as old -/
noncomputable def sameP (P Q : oa_P) : Bool := dcd (∀ k, k < 42 → P (48 + k) = Q (48 + k))
def seaE (P Q : oa_P) : Prop := ∀ r, r < 6 → P (48 + (7 * r + 6)) = Q (48 + (7 * r + 6))
theorem sameP_rows {n L : Nat} {P Q : oa_P} (hL : L ≤ 9) (hP : PW n L P) (hQ : PW n L Q) (hs : seaE P Q) : sameP P Q = dcd (∀ r, r < 6 → rwN (agN P r) 6 = rwN (agN Q r) 6) := by
  refine dcd_c ⟨fun h r hr => ?_, fun h k hk => ?_⟩
  · refine rwN_cong 6 fun p hp => ?_
    unfold agN
    rw [h (7 * r + p) (by omega)]
  · have hr : k / 7 < 6 := by omega
    have e : k = 7 * (k / 7) + k % 7 := by omega
    have hm : k % 7 < 7 := by omega
    rw [e]
    generalize k / 7 = r at hr
    generalize k % 7 = p at hm
    by_cases c : p = 6
    · rw [c]; exact hs r hr
    · have := rwN_inj 6 (fun q hq => ⟨(agN_eq hP hL hr (by omega)).2, (agN_eq hQ hL hr (by omega)).2⟩) (h r hr) p (by omega)
      rw [(agN_eq hP hL hr hm).1, (agN_eq hQ hL hr hm).1, this]
section AG
variable {n L : Nat} {R G P : oa_P} {V : oa_I2}
theorem cv_rowOf {r : Nat} (hL : L ≤ 9) (h : CV n R G P V) (hw : PW n L P) (hr : r < 6) : f_X1_rowOf V (nI r) = some (nI (rwN (agN P r) 6)) := by
  unfold f_X1_rowOf l_X1_rowOf_4
  refine oa_for (fun i => (nI (rwN (agN P r) i), nI i)) 6 rfl ?_ ?_ oa_fu (by rw [oa_fu_eq]; omega)
  · intro i hi k
    have ha := (agN_eq hw hL hr (show i < 7 by omega)).1
    have hlt := (agN_eq hw hL hr (show i < 7 by omega)).2
    cases hc : an P r i
    · have h0 : agN P r i = 0 := by
        cases e : agN P r i with
        | zero => rfl
        | succ a =>
          unfold an at hc
          have hpos : (0 : Int32) < nI (a + 1) := nI_lt (a := 0) (by omega) (by omega)
          rw [ha, e, decide_eq_true hpos] at hc
          cases hc
      simp (disch := (first | omega | assumption | decide)) only [b_X1_rowOf_4, cv_isAngry h, hc, oa_ut, oa_bs, oa_lt, oa_ile, oa_inle, oa_ilt, oa_inlt, oa_ieq, oa_ineq, oa_rd_nI, oa_wr_nI, oa_rd_0, oa_rd_1, oa_wr_0, oa_wr_1, oa_rdL_nI, oa_wrL_nI, oa_bi_if0, oa_bi_if1, oa_zc_bi, oa_if_b0, oa_if_b1, nI_1, nI_add, pk_mul, Nat.add_assoc, Int32.add_zero, Int32.sub_zero, Int32.or_zero, Int32.and_neg_one, va_up_s, va_up_n, upd_s, oa_up2, ite_self, if_true, if_false, oa_10, oa_01, oa_neg4, oa_ifno, oa_l2, oa_l3, oa_l4, oa_l5, oa_l6, oa_l7, oa_l8, oa_l9, oa_l10, oa_l12, oa_l15, oa_l16, oa_l20, oa_l32, oa_l40, oa_l42, oa_l48, oa_l64, oa_l90, oa_l96, oa_l97, oa_l98, oa_l99, oa_l100, oa_l120, oa_l360, oa_l450, oa_l457, oa_l458, oa_l480, oa_l528]
      rw [if_neg (by decide)]
      show _ = k (nI (rwN (agN P r) i * 16 + agN P r i), nI (i + 1))
      rw [h0]
      rfl
    · obtain ⟨a, e⟩ : ∃ a, agN P r i = a + 1 := by
        cases e : agN P r i with
        | zero =>
          unfold an at hc
          rw [ha, e] at hc
          exact absurd hc (by decide)
        | succ a => exact ⟨a, rfl⟩
      rw [e] at ha
      simp (disch := (first | omega | assumption | decide)) only [b_X1_rowOf_4, cv_isAngry h, hc, cv_ageOf h hr hi hc ha, oa_ut, oa_bs, oa_lt, oa_ile, oa_inle, oa_ilt, oa_inlt, oa_ieq, oa_ineq, oa_rd_nI, oa_wr_nI, oa_rd_0, oa_rd_1, oa_wr_0, oa_wr_1, oa_rdL_nI, oa_wrL_nI, oa_bi_if0, oa_bi_if1, oa_zc_bi, oa_if_b0, oa_if_b1, nI_1, nI_add, pk_mul, Nat.add_assoc, Int32.add_zero, Int32.sub_zero, Int32.or_zero, Int32.and_neg_one, va_up_s, va_up_n, upd_s, oa_up2, ite_self, if_true, if_false, oa_10, oa_01, oa_neg4, oa_ifno, oa_l2, oa_l3, oa_l4, oa_l5, oa_l6, oa_l7, oa_l8, oa_l9, oa_l10, oa_l12, oa_l15, oa_l16, oa_l20, oa_l32, oa_l40, oa_l42, oa_l48, oa_l64, oa_l90, oa_l96, oa_l97, oa_l98, oa_l99, oa_l100, oa_l120, oa_l360, oa_l450, oa_l457, oa_l458, oa_l480, oa_l528]
      show _ = k (nI (rwN (agN P r) i * 16 + agN P r i), nI (i + 1))
      rw [e]
  · intro k
    simp (disch := (first | omega | assumption | decide)) only [b_X1_rowOf_4, oa_ut, oa_bs, oa_lt, oa_ile, oa_inle, oa_ilt, oa_inlt, oa_ieq, oa_ineq, oa_rd_nI, oa_wr_nI, oa_rd_0, oa_rd_1, oa_wr_0, oa_wr_1, oa_rdL_nI, oa_wrL_nI, oa_bi_if0, oa_bi_if1, oa_zc_bi, oa_if_b0, oa_if_b1, nI_1, nI_add, pk_mul, Nat.add_assoc, Int32.add_zero, Int32.sub_zero, Int32.or_zero, Int32.and_neg_one, va_up_s, va_up_n, upd_s, oa_up2, ite_self, if_true, if_false, oa_10, oa_01, oa_neg4, oa_ifno, oa_l2, oa_l3, oa_l4, oa_l5, oa_l6, oa_l7, oa_l8, oa_l9, oa_l10, oa_l12, oa_l15, oa_l16, oa_l20, oa_l32, oa_l40, oa_l42, oa_l48, oa_l64, oa_l90, oa_l96, oa_l97, oa_l98, oa_l99, oa_l100, oa_l120, oa_l360, oa_l450, oa_l457, oa_l458, oa_l480, oa_l528]
theorem cv_note {m : Nat} {X : oa_I2} (hL : L ≤ 9) (h : CV n R G P V) (hw : PW n L P) (hm : m < 100) : f_X1_note X V (nI m) = some (va_up X 0 (fun j => if m * 6 ≤ j ∧ j < m * 6 + 6 then nI (rwN (agN P (j - m * 6)) 6) else X 0 j)) := by
  unfold f_X1_note l_X1_note_2
  refine oa_for (fun i => (va_up X 0 (fun j => if m * 6 ≤ j ∧ j < m * 6 + i then nI (rwN (agN P (j - m * 6)) 6) else X 0 j), nI i)) 6 ?_ ?_ ?_ oa_fu (by rw [oa_fu_eq]; omega)
  · refine Prod.ext ?_ rfl
    dsimp only
    funext a
    by_cases e : a = 0
    · subst e
      rw [va_up_s]
      funext j
      rw [if_neg (by omega)]
    · rw [va_up_n _ _ e]
  · intro i hi k
    simp (disch := (first | omega | assumption | decide)) only [b_X1_note_2, cv_rowOf hL h hw, oa_ut, oa_bs, oa_lt, oa_ile, oa_inle, oa_ilt, oa_inlt, oa_ieq, oa_ineq, oa_rd_nI, oa_wr_nI, oa_rd_0, oa_rd_1, oa_wr_0, oa_wr_1, oa_rdL_nI, oa_wrL_nI, oa_bi_if0, oa_bi_if1, oa_zc_bi, oa_if_b0, oa_if_b1, nI_1, nI_add, pk_mul, Nat.add_assoc, Int32.add_zero, Int32.sub_zero, Int32.or_zero, Int32.and_neg_one, va_up_s, va_up_n, upd_s, oa_up2, ite_self, if_true, if_false, oa_10, oa_01, oa_neg4, oa_ifno, oa_l2, oa_l3, oa_l4, oa_l5, oa_l6, oa_l7, oa_l8, oa_l9, oa_l10, oa_l12, oa_l15, oa_l16, oa_l20, oa_l32, oa_l40, oa_l42, oa_l48, oa_l64, oa_l90, oa_l96, oa_l97, oa_l98, oa_l99, oa_l100, oa_l120, oa_l360, oa_l450, oa_l457, oa_l458, oa_l480, oa_l528]
    refine congrArg k (Prod.ext ?_ rfl)
    refine congrArg (va_up X 0) ?_
    funext j
    show (if j = m * 6 + i then nI (rwN (agN P i) 6) else if m * 6 ≤ j ∧ j < m * 6 + i then nI (rwN (agN P (j - m * 6)) 6) else X 0 j) = _
    by_cases e : j = m * 6 + i
    · rw [if_pos e, if_pos (by omega), e, Nat.add_sub_cancel_left]
    · rw [if_neg e]
      by_cases e2 : m * 6 ≤ j ∧ j < m * 6 + i
      · rw [if_pos e2, if_pos (by omega)]
      · rw [if_neg e2, if_neg (by omega)]
  · intro k
    simp (disch := (first | omega | assumption | decide)) only [b_X1_note_2, oa_ut, oa_bs, oa_lt, oa_ile, oa_inle, oa_ilt, oa_inlt, oa_ieq, oa_ineq, oa_rd_nI, oa_wr_nI, oa_rd_0, oa_rd_1, oa_wr_0, oa_wr_1, oa_rdL_nI, oa_wrL_nI, oa_bi_if0, oa_bi_if1, oa_zc_bi, oa_if_b0, oa_if_b1, nI_1, nI_add, pk_mul, Nat.add_assoc, Int32.add_zero, Int32.sub_zero, Int32.or_zero, Int32.and_neg_one, va_up_s, va_up_n, upd_s, oa_up2, ite_self, if_true, if_false, oa_10, oa_01, oa_neg4, oa_ifno, oa_l2, oa_l3, oa_l4, oa_l5, oa_l6, oa_l7, oa_l8, oa_l9, oa_l10, oa_l12, oa_l15, oa_l16, oa_l20, oa_l32, oa_l40, oa_l42, oa_l48, oa_l64, oa_l90, oa_l96, oa_l97, oa_l98, oa_l99, oa_l100, oa_l120, oa_l360, oa_l450, oa_l457, oa_l458, oa_l480, oa_l528]
/-- the class's table of rows, of the pages W 0 to W t -/
def TX (W : Nat → oa_P) (t : Nat) (X : oa_I2) : Prop := ∀ m, m ≤ t → ∀ r, r < 6 → X 0 (m * 6 + r) = nI (rwN (agN (W m) r) 6)
theorem cl_same {W : Nat → oa_P} {t m : Nat} {X : oa_I2} (hL : L ≤ 9) (hX : TX W t X) (hm : m ≤ t) (ht : t < 100) (hW : ∀ i, PW n L (W i)) (hs : ∀ i j, seaE (W i) (W j)) : f_X1_same X (nI m) (nI t) = some (oa_bi (sameP (W m) (W t))) := by
  rw [sameP_rows hL (hW m) (hW t) (hs m t)]
  have lt : ∀ i r, r < 6 → rwN (agN (W i) r) 6 < 2 ^ 31 := fun i r hr => Nat.lt_of_lt_of_le (rwN_lt 6 fun p hp => (agN_eq (hW i) hL hr (by omega)).2) (by decide)
  unfold f_X1_same l_X1_same_2
  refine oa_forR (fun o => o = some (oa_bi (dcd (∀ r, r < 6 → rwN (agN (W m) r) 6 = rwN (agN (W t) r) 6)))) (fun i s => s = nI i ∧ ∀ r, r < i → rwN (agN (W m) r) 6 = rwN (agN (W t) r) 6) 6 ⟨rfl, fun r hr => absurd hr (Nat.not_lt_zero r)⟩ ?_ ?_ oa_fu (by rw [oa_fu_eq]; omega)
  · rintro i hi s ⟨rfl, he⟩
    have r1 := hX m hm i hi
    have r2 := hX t (Nat.le_refl t) i hi
    by_cases c : rwN (agN (W m) i) 6 = rwN (agN (W t) i) 6
    · left
      refine ⟨nI (i + 1), ⟨rfl, fun r hr => ?_⟩, fun k => ?_⟩
      · by_cases e : r = i
        · rw [e]; exact c
        · exact he r (by omega)
      · have := lt m i hi
        simp (disch := (first | omega | assumption | decide)) only [b_X1_same_2, r1, r2, oa_ut, oa_bs, oa_lt, oa_ile, oa_inle, oa_ilt, oa_inlt, oa_ieq, oa_ineq, oa_rd_nI, oa_wr_nI, oa_rd_0, oa_rd_1, oa_wr_0, oa_wr_1, oa_rdL_nI, oa_wrL_nI, oa_bi_if0, oa_bi_if1, oa_zc_bi, oa_if_b0, oa_if_b1, nI_1, nI_add, pk_mul, Nat.add_assoc, Int32.add_zero, Int32.sub_zero, Int32.or_zero, Int32.and_neg_one, va_up_s, va_up_n, upd_s, oa_up2, ite_self, if_true, if_false, oa_10, oa_01, oa_neg4, oa_ifno, oa_l2, oa_l3, oa_l4, oa_l5, oa_l6, oa_l7, oa_l8, oa_l9, oa_l10, oa_l12, oa_l15, oa_l16, oa_l20, oa_l32, oa_l40, oa_l42, oa_l48, oa_l64, oa_l90, oa_l96, oa_l97, oa_l98, oa_l99, oa_l100, oa_l120, oa_l360, oa_l450, oa_l457, oa_l458, oa_l480, oa_l528]
    · right
      refine ⟨some 0, ?_, fun k => ?_⟩
      · rw [dcd_f (fun h => c (h i hi))]; rfl
      · have := lt m i hi
        have := lt t i hi
        simp (disch := (first | omega | assumption | decide)) only [b_X1_same_2, r1, r2, oa_ut, oa_bs, oa_lt, oa_ile, oa_inle, oa_ilt, oa_inlt, oa_ieq, oa_ineq, oa_rd_nI, oa_wr_nI, oa_rd_0, oa_rd_1, oa_wr_0, oa_wr_1, oa_rdL_nI, oa_wrL_nI, oa_bi_if0, oa_bi_if1, oa_zc_bi, oa_if_b0, oa_if_b1, nI_1, nI_add, pk_mul, Nat.add_assoc, Int32.add_zero, Int32.sub_zero, Int32.or_zero, Int32.and_neg_one, va_up_s, va_up_n, upd_s, oa_up2, ite_self, if_true, if_false, oa_10, oa_01, oa_neg4, oa_ifno, oa_l2, oa_l3, oa_l4, oa_l5, oa_l6, oa_l7, oa_l8, oa_l9, oa_l10, oa_l12, oa_l15, oa_l16, oa_l20, oa_l32, oa_l40, oa_l42, oa_l48, oa_l64, oa_l90, oa_l96, oa_l97, oa_l98, oa_l99, oa_l100, oa_l120, oa_l360, oa_l450, oa_l457, oa_l458, oa_l480, oa_l528]
  · rintro s ⟨rfl, he⟩
    refine ⟨some 1, ?_, fun k => ?_⟩
    · rw [dcd_t he]; rfl
    · simp (disch := (first | omega | assumption | decide)) only [b_X1_same_2, oa_ut, oa_bs, oa_lt, oa_ile, oa_inle, oa_ilt, oa_inlt, oa_ieq, oa_ineq, oa_rd_nI, oa_wr_nI, oa_rd_0, oa_rd_1, oa_wr_0, oa_wr_1, oa_rdL_nI, oa_wrL_nI, oa_bi_if0, oa_bi_if1, oa_zc_bi, oa_if_b0, oa_if_b1, nI_1, nI_add, pk_mul, Nat.add_assoc, Int32.add_zero, Int32.sub_zero, Int32.or_zero, Int32.and_neg_one, va_up_s, va_up_n, upd_s, oa_up2, ite_self, if_true, if_false, oa_10, oa_01, oa_neg4, oa_ifno, oa_l2, oa_l3, oa_l4, oa_l5, oa_l6, oa_l7, oa_l8, oa_l9, oa_l10, oa_l12, oa_l15, oa_l16, oa_l20, oa_l32, oa_l40, oa_l42, oa_l48, oa_l64, oa_l90, oa_l96, oa_l97, oa_l98, oa_l99, oa_l100, oa_l120, oa_l360, oa_l450, oa_l457, oa_l458, oa_l480, oa_l528]
/-- some page before is the same -/
noncomputable def lk (W : Nat → oa_P) (t : Nat) : Nat → Bool
  | 0 => false
  | m + 1 => lk W t m || sameP (W m) (W t)
theorem lk_mono {W : Nat → oa_P} {t i : Nat} (h : lk W t i = true) : ∀ b, i ≤ b → lk W t b = true := by
  intro b hb
  induction b with
  | zero =>
    have : i = 0 := by omega
    rw [this] at h; exact h
  | succ b ih =>
    by_cases e : i = b + 1
    · rw [← e]; exact h
    · unfold lk
      rw [ih (by omega)]; rfl
theorem cl_hasLike {W : Nat → oa_P} {t b : Nat} {X : oa_I2} (hL : L ≤ 9) (hX : TX W t X) (hb : b ≤ t) (ht : t < 100) (hW : ∀ i, PW n L (W i)) (hs : ∀ i j, seaE (W i) (W j)) : f_X1_hasLike X (nI t) (nI b) = some (oa_bi (lk W t b)) := by
  unfold f_X1_hasLike l_X1_hasLike_2
  refine oa_forR (fun o => o = some (oa_bi (lk W t b))) (fun i s => s = nI i ∧ lk W t i = false) b ⟨rfl, rfl⟩ ?_ ?_ oa_fu (by rw [oa_fu_eq]; omega)
  · rintro i hi s ⟨rfl, he⟩
    cases c : sameP (W i) (W t)
    · left
      refine ⟨nI (i + 1), ⟨rfl, by unfold lk; rw [he, c]; rfl⟩, fun k => ?_⟩
      simp (disch := (first | omega | assumption | decide)) only [b_X1_hasLike_2, cl_same hL hX (show i ≤ t by omega) ht hW hs, c, oa_ut, oa_bs, oa_lt, oa_ile, oa_inle, oa_ilt, oa_inlt, oa_ieq, oa_ineq, oa_rd_nI, oa_wr_nI, oa_rd_0, oa_rd_1, oa_wr_0, oa_wr_1, oa_rdL_nI, oa_wrL_nI, oa_bi_if0, oa_bi_if1, oa_zc_bi, oa_if_b0, oa_if_b1, nI_1, nI_add, pk_mul, Nat.add_assoc, Int32.add_zero, Int32.sub_zero, Int32.or_zero, Int32.and_neg_one, va_up_s, va_up_n, upd_s, oa_up2, ite_self, if_true, if_false, oa_10, oa_01, oa_neg4, oa_ifno, oa_l2, oa_l3, oa_l4, oa_l5, oa_l6, oa_l7, oa_l8, oa_l9, oa_l10, oa_l12, oa_l15, oa_l16, oa_l20, oa_l32, oa_l40, oa_l42, oa_l48, oa_l64, oa_l90, oa_l96, oa_l97, oa_l98, oa_l99, oa_l100, oa_l120, oa_l360, oa_l450, oa_l457, oa_l458, oa_l480, oa_l528]
      rfl
    · right
      refine ⟨some 1, ?_, fun k => ?_⟩
      · rw [lk_mono (i := i + 1) (by unfold lk; rw [c, Bool.or_true]) b (by omega)]; rfl
      · simp (disch := (first | omega | assumption | decide)) only [b_X1_hasLike_2, cl_same hL hX (show i ≤ t by omega) ht hW hs, c, oa_ut, oa_bs, oa_lt, oa_ile, oa_inle, oa_ilt, oa_inlt, oa_ieq, oa_ineq, oa_rd_nI, oa_wr_nI, oa_rd_0, oa_rd_1, oa_wr_0, oa_wr_1, oa_rdL_nI, oa_wrL_nI, oa_bi_if0, oa_bi_if1, oa_zc_bi, oa_if_b0, oa_if_b1, nI_1, nI_add, pk_mul, Nat.add_assoc, Int32.add_zero, Int32.sub_zero, Int32.or_zero, Int32.and_neg_one, va_up_s, va_up_n, upd_s, oa_up2, ite_self, if_true, if_false, oa_10, oa_01, oa_neg4, oa_ifno, oa_l2, oa_l3, oa_l4, oa_l5, oa_l6, oa_l7, oa_l8, oa_l9, oa_l10, oa_l12, oa_l15, oa_l16, oa_l20, oa_l32, oa_l40, oa_l42, oa_l48, oa_l64, oa_l90, oa_l96, oa_l97, oa_l98, oa_l99, oa_l100, oa_l120, oa_l360, oa_l450, oa_l457, oa_l458, oa_l480, oa_l528]
  · rintro s ⟨rfl, he⟩
    refine ⟨some 0, by rw [he]; rfl, fun k => ?_⟩
    simp (disch := (first | omega | assumption | decide)) only [b_X1_hasLike_2, oa_ut, oa_bs, oa_lt, oa_ile, oa_inle, oa_ilt, oa_inlt, oa_ieq, oa_ineq, oa_rd_nI, oa_wr_nI, oa_rd_0, oa_rd_1, oa_wr_0, oa_wr_1, oa_rdL_nI, oa_wrL_nI, oa_bi_if0, oa_bi_if1, oa_zc_bi, oa_if_b0, oa_if_b1, nI_1, nI_add, pk_mul, Nat.add_assoc, Int32.add_zero, Int32.sub_zero, Int32.or_zero, Int32.and_neg_one, va_up_s, va_up_n, upd_s, oa_up2, ite_self, if_true, if_false, oa_10, oa_01, oa_neg4, oa_ifno, oa_l2, oa_l3, oa_l4, oa_l5, oa_l6, oa_l7, oa_l8, oa_l9, oa_l10, oa_l12, oa_l15, oa_l16, oa_l20, oa_l32, oa_l40, oa_l42, oa_l48, oa_l64, oa_l90, oa_l96, oa_l97, oa_l98, oa_l99, oa_l100, oa_l120, oa_l360, oa_l450, oa_l457, oa_l458, oa_l480, oa_l528]
/-! the sea is as it was -/
theorem sea_pw {p q : Nat} (h6 : n ≤ 6) (hp : p < n) (hq : q < n) : seaE (pw R P n p q) P := by
  intro r hr
  unfold pw p2 p1
  have : ∀ i, i ≤ n → ∀ Q : oa_P, it (setr (wo R P p q) p) i Q (48 + (7 * r + 6)) = Q (48 + (7 * r + 6)) := by
    intro i
    induction i with
    | zero => intro _ Q; rfl
    | succ i ih =>
      intro hi Q
      rw [it_succ]
      unfold setr
      split
      · rw [upd_n _ _ (by omega)]; exact ih (by omega) Q
      · exact ih (by omega) Q
  rw [this n (Nat.le_refl n), upd_n _ _ (by omega), upd_n _ _ (by omega)]
theorem sea_trans {P Q S : oa_P} (h : seaE P Q) (g : seaE Q S) : seaE P S := fun r hr => (h r hr).trans (g r hr)
theorem sea_symm {P Q : oa_P} (h : seaE P Q) : seaE Q P := fun r hr => (h r hr).symm
theorem sea_it {f : Nat → oa_P → oa_P} : ∀ {N : Nat}, (∀ k, k < N → ∀ Q, seaE (f k Q) Q) → ∀ Q, seaE (it f N Q) Q
  | 0, _, _ => fun _ _ => rfl
  | N + 1, h, Q => by rw [it_succ]; exact sea_trans (h N (by omega) _) (sea_it (fun k hk => h k (by omega)) Q)
theorem sea_hu (h6 : n ≤ 6) : seaE (hu n P) P :=
  sea_it (fun r hr Q => sea_it (fun p hp Q r' hr' => by
    unfold hu1
    split
    · rw [upd_n _ _ (by omega), upd_n _ _ (by omega)]
    · rfl) Q) P
theorem sea_en (h6 : n ≤ 6) : seaE (en R n P) P :=
  sea_it (fun r hr Q => sea_it (fun p hp Q r' hr' => en1_at (by omega) (by omega)) Q) P
theorem sea_wk1 {p : Nat} {s : oa_P × Int32} (h6 : n ≤ 6) (hp : p < n) : seaE (wk1 R n p s).1 s.1 := by
  unfold wk1
  rcases cho_some R s.1 n p with h1 | ⟨q, h1, _, h2⟩
  · rw [if_pos h1]; exact fun _ _ => rfl
  · split
    · exact fun _ _ => rfl
    · rw [h2, nI_clamp (by omega)]
      intro r hr
      dsimp only
      rw [upd_n _ _ (by omega), upd_n _ _ (by omega)]
      exact sea_pw h6 hp h1 r hr
theorem sea_wka (h6 : n ≤ 6) : ∀ i, i ≤ n → seaE (it (wk1 R n) i (P, 0)).1 P
  | 0, _ => fun _ _ => rfl
  | i + 1, hi => by rw [it_succ]; exact sea_trans (sea_wk1 h6 (by omega)) (sea_wka h6 i (by omega))
theorem sea_wk (h6 : n ≤ 6) : seaE (wk R n P).1 P := by
  intro r hr
  unfold wk
  dsimp only
  rw [upd_n _ _ (by omega)]
  exact sea_trans (sea_en h6) (sea_trans (sea_hu h6) (sea_wka h6 n (Nat.le_refl n))) r hr
theorem sea_wks (h6 : n ≤ 6) : ∀ m, seaE (wks R n m P).1 P
  | 0 => fun _ _ => rfl
  | m + 1 => sea_trans (sea_wk h6) (sea_wks h6 m)
end AG
section AG2
variable {M : oa_I2} {K : oa_J2} {n : Nat} {P : oa_P} {w : Int32}
theorem oa_ms_8 {Y : oa_P} : va_up (oa_ms M 360 P w) 8 Y = oa_ms (va_up M 8 Y) 360 P w := by
  funext b
  by_cases h : b = 8
  · subst h
    rw [va_up_s, oa_ms_k (by omega) (by omega), va_up_s]
  · rw [va_up_n _ _ h]
    by_cases h0 : b = 0
    · subst h0
      unfold oa_ms
      rw [if_neg (by omega), if_pos rfl, if_neg (by omega), if_pos rfl, va_up_n _ _ (by omega)]
    · by_cases h1 : b = 1
      · subst h1
        unfold oa_ms
        rw [if_pos rfl, if_pos rfl, va_up_n _ _ (by omega)]
      · rw [oa_ms_k h0 h1, oa_ms_k h0 h1, va_up_n _ _ h]
theorem md_notes {t : Nat} (ht : t < 100) : f_X7_notes (oa_ms M 360 P w) K (nI 360) (nI t) = some (oa_ms (va_up M 8 (fun j => if 42 * t ≤ j ∧ j < 42 * t + 42 then P (48 + (j - 42 * t)) else M 8 j)) 360 P w) := by
  unfold f_X7_notes l_X7_notes_2
  refine oa_for (fun i => (oa_ms (va_up M 8 (fun j => if 42 * t ≤ j ∧ j < 42 * t + i then P (48 + (j - 42 * t)) else M 8 j)) 360 P w, nI i)) 42 ?_ ?_ ?_ oa_fu (by rw [oa_fu_eq]; omega)
  · refine Prod.ext ?_ rfl
    dsimp only
    have : va_up M 8 (fun j => if 42 * t ≤ j ∧ j < 42 * t + 0 then P (48 + (j - 42 * t)) else M 8 j) = M := by
      funext a
      by_cases e : a = 8
      · subst e
        rw [va_up_s]
        funext j
        rw [if_neg (by omega)]
      · rw [va_up_n _ _ e]
    rw [this]
  · intro i hi k
    simp (disch := (first | omega | assumption | decide)) only [b_X7_notes_2, oa_ms_rd' (a := 360) (j := 360 + (48 + i)) (k := 48 + i), oa_ms_k, va_up_s, oa_wr_nI, oa_ms_8, oa_up2, oa_ut, oa_bs, oa_lt, oa_ile, oa_inle, oa_ilt, oa_inlt, oa_ieq, oa_ineq, oa_rd_0, oa_rd_1, oa_wr_0, oa_wr_1, oa_rdL_nI, oa_wrL_nI, oa_bi_if0, oa_bi_if1, oa_zc_bi, oa_if_b0, oa_if_b1, nI_1, nI_add, pk_mul, Nat.add_assoc, Int32.add_zero, Int32.sub_zero, Int32.or_zero, Int32.and_neg_one, ite_self, if_true, if_false, oa_10, oa_01, oa_neg4, oa_ifno, oa_l2, oa_l3, oa_l4, oa_l5, oa_l6, oa_l7, oa_l8, oa_l9, oa_l10, oa_l12, oa_l15, oa_l16, oa_l20, oa_l32, oa_l40, oa_l42, oa_l48, oa_l64, oa_l90, oa_l96, oa_l97, oa_l98, oa_l99, oa_l100, oa_l120, oa_l360, oa_l450, oa_l457, oa_l458, oa_l480, oa_l528]
    refine congrArg k (Prod.ext ?_ rfl)
    dsimp only
    refine congrArg (fun Y => oa_ms (va_up M 8 Y) 360 P w) ?_
    funext j
    show (if j = 42 * t + i then P (48 + i) else if 42 * t ≤ j ∧ j < 42 * t + i then P (48 + (j - 42 * t)) else M 8 j) = _
    by_cases e : j = 42 * t + i
    · rw [if_pos e, if_pos (by omega), e, Nat.add_sub_cancel_left]
    · rw [if_neg e]
      by_cases e2 : 42 * t ≤ j ∧ j < 42 * t + i
      · rw [if_pos e2, if_pos (by omega)]
      · rw [if_neg e2, if_neg (by omega)]
  · intro k
    simp (disch := (first | omega | assumption | decide)) only [b_X7_notes_2, oa_ut, oa_bs, oa_lt, oa_ile, oa_inle, oa_ilt, oa_inlt, oa_ieq, oa_ineq, oa_rd_0, oa_rd_1, oa_wr_0, oa_wr_1, oa_rdL_nI, oa_wrL_nI, oa_bi_if0, oa_bi_if1, oa_zc_bi, oa_if_b0, oa_if_b1, nI_1, nI_add, pk_mul, Nat.add_assoc, Int32.add_zero, Int32.sub_zero, Int32.or_zero, Int32.and_neg_one, ite_self, if_true, if_false, oa_10, oa_01, oa_neg4, oa_ifno, oa_l2, oa_l3, oa_l4, oa_l5, oa_l6, oa_l7, oa_l8, oa_l9, oa_l10, oa_l12, oa_l15, oa_l16, oa_l20, oa_l32, oa_l40, oa_l42, oa_l48, oa_l64, oa_l90, oa_l96, oa_l97, oa_l98, oa_l99, oa_l100, oa_l120, oa_l360, oa_l450, oa_l457, oa_l458, oa_l480, oa_l528]
/-- the model's table -/
def TY (W : Nat → oa_P) (t : Nat) (Y : oa_P) : Prop := ∀ m, m ≤ t → ∀ k, k < 42 → Y (42 * m + k) = W m (48 + k)
theorem md_isSame {W : Nat → oa_P} {t m : Nat} (hY : TY W t (M 8)) (hm : m ≤ t) (ht : t < 100) : f_X7_isSame M K (nI m) (nI t) = some (oa_bi (sameP (W m) (W t))) := by
  unfold f_X7_isSame l_X7_isSame_5
  refine oa_forR (fun o => o = some (oa_bi (sameP (W m) (W t)))) (fun i s => s = (1, nI i) ∧ (∀ k, k < i → W m (48 + k) = W t (48 + k)) ∨ s = (0, nI i) ∧ sameP (W m) (W t) = false) 42 (Or.inl ⟨rfl, fun r hr => absurd hr (Nat.not_lt_zero r)⟩) ?_ ?_ oa_fu (by rw [oa_fu_eq]; omega)
  · rintro i hi s (⟨rfl, he⟩ | ⟨rfl, he⟩)
    · left
      have r1 := hY m hm i hi
      have r2 := hY t (Nat.le_refl t) i hi
      by_cases c : W m (48 + i) = W t (48 + i)
      · refine ⟨(1, nI (i + 1)), Or.inl ⟨rfl, fun k hk => ?_⟩, fun k => ?_⟩
        · by_cases e : k = i
          · rw [e]; exact c
          · exact he k (by omega)
        · simp (disch := (first | omega | assumption | decide)) only [b_X7_isSame_5, r1, r2, if_pos c, oa_ut, oa_bs, oa_lt, oa_ile, oa_inle, oa_ilt, oa_inlt, oa_ieq, oa_ineq, oa_rd_nI, oa_wr_nI, oa_rd_0, oa_rd_1, oa_wr_0, oa_wr_1, oa_rdL_nI, oa_wrL_nI, oa_bi_if0, oa_bi_if1, oa_zc_bi, oa_if_b0, oa_if_b1, nI_1, nI_add, pk_mul, Nat.add_assoc, Int32.add_zero, Int32.sub_zero, Int32.or_zero, Int32.and_neg_one, va_up_s, va_up_n, upd_s, oa_up2, ite_self, if_true, if_false, oa_10, oa_01, oa_neg4, oa_ifno, oa_l2, oa_l3, oa_l4, oa_l5, oa_l6, oa_l7, oa_l8, oa_l9, oa_l10, oa_l12, oa_l15, oa_l16, oa_l20, oa_l32, oa_l40, oa_l42, oa_l48, oa_l64, oa_l90, oa_l96, oa_l97, oa_l98, oa_l99, oa_l100, oa_l120, oa_l360, oa_l450, oa_l457, oa_l458, oa_l480, oa_l528]
      · refine ⟨(0, nI (i + 1)), Or.inr ⟨rfl, dcd_f (fun h => c (h i hi))⟩, fun k => ?_⟩
        simp (disch := (first | omega | assumption | decide)) only [b_X7_isSame_5, r1, r2, if_neg c, oa_ut, oa_bs, oa_lt, oa_ile, oa_inle, oa_ilt, oa_inlt, oa_ieq, oa_ineq, oa_rd_nI, oa_wr_nI, oa_rd_0, oa_rd_1, oa_wr_0, oa_wr_1, oa_rdL_nI, oa_wrL_nI, oa_bi_if0, oa_bi_if1, oa_zc_bi, oa_if_b0, oa_if_b1, nI_1, nI_add, pk_mul, Nat.add_assoc, Int32.add_zero, Int32.sub_zero, Int32.or_zero, Int32.and_neg_one, va_up_s, va_up_n, upd_s, oa_up2, ite_self, if_true, if_false, oa_10, oa_01, oa_neg4, oa_ifno, oa_l2, oa_l3, oa_l4, oa_l5, oa_l6, oa_l7, oa_l8, oa_l9, oa_l10, oa_l12, oa_l15, oa_l16, oa_l20, oa_l32, oa_l40, oa_l42, oa_l48, oa_l64, oa_l90, oa_l96, oa_l97, oa_l98, oa_l99, oa_l100, oa_l120, oa_l360, oa_l450, oa_l457, oa_l458, oa_l480, oa_l528]
    · right
      refine ⟨some 0, by rw [he]; rfl, fun k => ?_⟩
      simp (disch := (first | omega | assumption | decide)) only [b_X7_isSame_5, oa_ut, oa_bs, oa_lt, oa_ile, oa_inle, oa_ilt, oa_inlt, oa_ieq, oa_ineq, oa_rd_nI, oa_wr_nI, oa_rd_0, oa_rd_1, oa_wr_0, oa_wr_1, oa_rdL_nI, oa_wrL_nI, oa_bi_if0, oa_bi_if1, oa_zc_bi, oa_if_b0, oa_if_b1, nI_1, nI_add, pk_mul, Nat.add_assoc, Int32.add_zero, Int32.sub_zero, Int32.or_zero, Int32.and_neg_one, va_up_s, va_up_n, upd_s, oa_up2, ite_self, if_true, if_false, oa_10, oa_01, oa_neg4, oa_ifno, oa_l2, oa_l3, oa_l4, oa_l5, oa_l6, oa_l7, oa_l8, oa_l9, oa_l10, oa_l12, oa_l15, oa_l16, oa_l20, oa_l32, oa_l40, oa_l42, oa_l48, oa_l64, oa_l90, oa_l96, oa_l97, oa_l98, oa_l99, oa_l100, oa_l120, oa_l360, oa_l450, oa_l457, oa_l458, oa_l480, oa_l528]
      rfl
  · rintro s (⟨rfl, he⟩ | ⟨rfl, he⟩)
    · refine ⟨some 1, by rw [show sameP (W m) (W t) = true from dcd_t he]; rfl, fun k => ?_⟩
      simp (disch := (first | omega | assumption | decide)) only [b_X7_isSame_5, oa_ut, oa_bs, oa_lt, oa_ile, oa_inle, oa_ilt, oa_inlt, oa_ieq, oa_ineq, oa_rd_nI, oa_wr_nI, oa_rd_0, oa_rd_1, oa_wr_0, oa_wr_1, oa_rdL_nI, oa_wrL_nI, oa_bi_if0, oa_bi_if1, oa_zc_bi, oa_if_b0, oa_if_b1, nI_1, nI_add, pk_mul, Nat.add_assoc, Int32.add_zero, Int32.sub_zero, Int32.or_zero, Int32.and_neg_one, va_up_s, va_up_n, upd_s, oa_up2, ite_self, if_true, if_false, oa_10, oa_01, oa_neg4, oa_ifno, oa_l2, oa_l3, oa_l4, oa_l5, oa_l6, oa_l7, oa_l8, oa_l9, oa_l10, oa_l12, oa_l15, oa_l16, oa_l20, oa_l32, oa_l40, oa_l42, oa_l48, oa_l64, oa_l90, oa_l96, oa_l97, oa_l98, oa_l99, oa_l100, oa_l120, oa_l360, oa_l450, oa_l457, oa_l458, oa_l480, oa_l528]
      rfl
    · refine ⟨some 0, by rw [he]; rfl, fun k => ?_⟩
      simp (disch := (first | omega | assumption | decide)) only [b_X7_isSame_5, oa_ut, oa_bs, oa_lt, oa_ile, oa_inle, oa_ilt, oa_inlt, oa_ieq, oa_ineq, oa_rd_nI, oa_wr_nI, oa_rd_0, oa_rd_1, oa_wr_0, oa_wr_1, oa_rdL_nI, oa_wrL_nI, oa_bi_if0, oa_bi_if1, oa_zc_bi, oa_if_b0, oa_if_b1, nI_1, nI_add, pk_mul, Nat.add_assoc, Int32.add_zero, Int32.sub_zero, Int32.or_zero, Int32.and_neg_one, va_up_s, va_up_n, upd_s, oa_up2, ite_self, if_true, if_false, oa_10, oa_01, oa_neg4, oa_ifno, oa_l2, oa_l3, oa_l4, oa_l5, oa_l6, oa_l7, oa_l8, oa_l9, oa_l10, oa_l12, oa_l15, oa_l16, oa_l20, oa_l32, oa_l40, oa_l42, oa_l48, oa_l64, oa_l90, oa_l96, oa_l97, oa_l98, oa_l99, oa_l100, oa_l120, oa_l360, oa_l450, oa_l457, oa_l458, oa_l480, oa_l528]
      rfl
theorem md_again_in {W : Nat → oa_P} {t b : Nat} {x : Int32} {k2 : oa_I2 → Int32 → Option (Int32 × oa_I2)} (hY : TY W t (M 8)) (hb : b ≤ t) (ht : t < 100) (hx : x = 0 ∧ b = 1 ∨ ¬ x = 0 ∧ b = t) : l_X7_again_50 K x M (nI t) k2 oa_fu 0 = if lk W t b = true then some (nI t, M) else k2 M (nI (t + 1)) := by
  unfold l_X7_again_50
  have hbody : ∀ (k27 : oa_I2 → Int32 → Option (Int32 × oa_I2)) k50 x3, b_X7_again_50 K x M (nI t) k27 k50 x3 = b_X7_again_60 K x k27 k50 M (nI t) x3 x3 (nI b) := by
    intro k27 k50 x3
    unfold b_X7_again_50
    rcases hx with ⟨h1, h2⟩ | ⟨h1, h2⟩
    · rw [if_pos h1, h2]; rfl
    · rw [if_neg h1, h2]
  refine oa_forR (fun o => o = if lk W t b = true then some (nI t, M) else k2 M (nI (t + 1))) (fun i s => s = nI i ∧ lk W t i = false) b ⟨rfl, rfl⟩ ?_ ?_ oa_fu (by rw [oa_fu_eq]; omega)
  · rintro i hi s ⟨rfl, he⟩
    cases c : sameP (W i) (W t)
    · left
      refine ⟨nI (i + 1), ⟨rfl, by unfold lk; rw [he, c]; rfl⟩, fun k => ?_⟩
      simp (disch := (first | omega | assumption | decide)) only [hbody, b_X7_again_60, md_isSame hY (show i ≤ t by omega) ht, c, oa_ut, oa_bs, oa_lt, oa_ile, oa_inle, oa_ilt, oa_inlt, oa_ieq, oa_ineq, oa_rd_nI, oa_wr_nI, oa_rd_0, oa_rd_1, oa_wr_0, oa_wr_1, oa_rdL_nI, oa_wrL_nI, oa_bi_if0, oa_bi_if1, oa_zc_bi, oa_if_b0, oa_if_b1, nI_1, nI_add, pk_mul, Nat.add_assoc, Int32.add_zero, Int32.sub_zero, Int32.or_zero, Int32.and_neg_one, va_up_s, va_up_n, upd_s, oa_up2, ite_self, if_true, if_false, oa_10, oa_01, oa_neg4, oa_ifno, oa_l2, oa_l3, oa_l4, oa_l5, oa_l6, oa_l7, oa_l8, oa_l9, oa_l10, oa_l12, oa_l15, oa_l16, oa_l20, oa_l32, oa_l40, oa_l42, oa_l48, oa_l64, oa_l90, oa_l96, oa_l97, oa_l98, oa_l99, oa_l100, oa_l120, oa_l360, oa_l450, oa_l457, oa_l458, oa_l480, oa_l528]
      rfl
    · right
      refine ⟨some (nI t, M), ?_, fun k => ?_⟩
      · rw [lk_mono (i := i + 1) (by unfold lk; rw [c, Bool.or_true]) b (by omega)]; rfl
      · simp (disch := (first | omega | assumption | decide)) only [hbody, b_X7_again_60, md_isSame hY (show i ≤ t by omega) ht, c, oa_ut, oa_bs, oa_lt, oa_ile, oa_inle, oa_ilt, oa_inlt, oa_ieq, oa_ineq, oa_rd_nI, oa_wr_nI, oa_rd_0, oa_rd_1, oa_wr_0, oa_wr_1, oa_rdL_nI, oa_wrL_nI, oa_bi_if0, oa_bi_if1, oa_zc_bi, oa_if_b0, oa_if_b1, nI_1, nI_add, pk_mul, Nat.add_assoc, Int32.add_zero, Int32.sub_zero, Int32.or_zero, Int32.and_neg_one, va_up_s, va_up_n, upd_s, oa_up2, ite_self, if_true, if_false, oa_10, oa_01, oa_neg4, oa_ifno, oa_l2, oa_l3, oa_l4, oa_l5, oa_l6, oa_l7, oa_l8, oa_l9, oa_l10, oa_l12, oa_l15, oa_l16, oa_l20, oa_l32, oa_l40, oa_l42, oa_l48, oa_l64, oa_l90, oa_l96, oa_l97, oa_l98, oa_l99, oa_l100, oa_l120, oa_l360, oa_l450, oa_l457, oa_l458, oa_l480, oa_l528]
  · rintro s ⟨rfl, he⟩
    refine ⟨_, rfl, fun k => ?_⟩
    rw [he, if_neg (by decide)]
    simp (disch := (first | omega | assumption | decide)) only [hbody, b_X7_again_60, oa_ut, oa_bs, oa_lt, oa_ile, oa_inle, oa_ilt, oa_inlt, oa_ieq, oa_ineq, oa_rd_nI, oa_wr_nI, oa_rd_0, oa_rd_1, oa_wr_0, oa_wr_1, oa_rdL_nI, oa_wrL_nI, oa_bi_if0, oa_bi_if1, oa_zc_bi, oa_if_b0, oa_if_b1, nI_1, nI_add, pk_mul, Nat.add_assoc, Int32.add_zero, Int32.sub_zero, Int32.or_zero, Int32.and_neg_one, va_up_s, va_up_n, upd_s, oa_up2, ite_self, if_true, if_false, oa_10, oa_01, oa_neg4, oa_ifno, oa_l2, oa_l3, oa_l4, oa_l5, oa_l6, oa_l7, oa_l8, oa_l9, oa_l10, oa_l12, oa_l15, oa_l16, oa_l20, oa_l32, oa_l40, oa_l42, oa_l48, oa_l64, oa_l90, oa_l96, oa_l97, oa_l98, oa_l99, oa_l100, oa_l120, oa_l360, oa_l450, oa_l457, oa_l458, oa_l480, oa_l528]
end AG2
