/-! the relation between an object and the model; calls that only ask -/
theorem f_in_0_1 (x : Int32) : f_X7_in x.toInt64 0 1 = some (oa_bi (oa_wi x 0 1)) := f_in x 0 1
theorem f_in_0_2 (x : Int32) : f_X7_in x.toInt64 0 2 = some (oa_bi (oa_wi x 0 2)) := f_in x 0 2
theorem f_in_0_3 (x : Int32) : f_X7_in x.toInt64 0 3 = some (oa_bi (oa_wi x 0 3)) := f_in x 0 3
theorem f_in_0_4 (x : Int32) : f_X7_in x.toInt64 0 4 = some (oa_bi (oa_wi x 0 4)) := f_in x 0 4
theorem f_in_0_6 (x : Int32) : f_X7_in x.toInt64 0 6 = some (oa_bi (oa_wi x 0 6)) := f_in x 0 6
theorem f_in_0_7 (x : Int32) : f_X7_in x.toInt64 0 7 = some (oa_bi (oa_wi x 0 7)) := f_in x 0 7
theorem f_in_0_12 (x : Int32) : f_X7_in x.toInt64 0 12 = some (oa_bi (oa_wi x 0 12)) := f_in x 0 12
theorem f_in_0_20 (x : Int32) : f_X7_in x.toInt64 0 20 = some (oa_bi (oa_wi x 0 20)) := f_in x 0 20
theorem f_in_0_99 (x : Int32) : f_X7_in x.toInt64 0 99 = some (oa_bi (oa_wi x 0 99)) := f_in x 0 99
theorem f_in_1_4 (x : Int32) : f_X7_in x.toInt64 1 4 = some (oa_bi (oa_wi x 1 4)) := f_in x 1 4
theorem f_in_1_99 (x : Int32) : f_X7_in x.toInt64 1 99 = some (oa_bi (oa_wi x 1 99)) := f_in x 1 99
def TB (n : Nat) (P : oa_P) : Prop := ∀ p, p < n → (∃ s : Nat, s ≤ 4 ∧ P (8 * p) = nI s) ∧ (∀ w, 1 ≤ w → w ≤ 4 → ∃ x : Nat, x ≤ 20 ∧ P (8 * p + w) = nI x) ∧ (∃ x : Nat, 1 ≤ x ∧ x ≤ 4 ∧ P (8 * p + 5) = nI x)
def RV (n L : Nat) (R P : oa_P) (V : oa_I2) : Prop := CV n R (fun _ => 0) P V ∧ PW n L P ∧ P 99 = nI n ∧ TB n P
def RR (R : oa_P) (L : Nat) : Prop := RB R L ∧ (R 0 = 1 ∨ R 0 = 2)
def RI (L : Nat) (B : oa_I3) (M : oa_I2) : Prop := ∀ k, k < 2 → M 11 k = B 6 1 k ∧ (B 6 1 k = 0 ∨ B 6 1 k = 1 ∧ ∃ n, RV n L (M 2) (oa_pg M (120 * (k + 1))) (B (3 + k)))
def RT (T M : oa_I2) : Prop := ∃ t : Nat, t ≤ 320 ∧ T 1 0 = nI t ∧ M 0 0 = nI t ∧ ∀ k, k < t → ∃ b : Nat, b < 256 ∧ T 0 k = nI b ∧ M 5 k = nI b
def RS (S M : oa_I2) (k : Nat) : Prop := (S 1 0 = oNO ∧ M 12 k = oNO) ∨ ∃ s l : Nat, s ≤ 40 ∧ l ≤ 2 ∧ S 1 0 = nI s ∧ M 13 k = nI s ∧ S 1 1 = nI l ∧ M 12 k = nI l ∧ ∀ i, i < 40 → S 0 i = M 14 (40 * k + i)
def oa_ct (i : Nat) : Nat := [0, 3, 6, 10, 13, 18, 24, 29, 34, 38, 42, 45, 50, 53].getD i 0
def RC (M : oa_I2) : Prop := (∀ i, i < 14 → M 6 i = nI (oa_ct i)) ∧ ∀ i, i < 13 → ∀ k, k < oa_len.getD i 0 → M 7 (oa_ct i + k) = (oa_byt.getD i []).getD k 0
def Rel (B : oa_I3) (M : oa_I2) : Prop := ∃ n L, RR (M 2) L ∧ RV n L (M 2) (M 1) (B 0) ∧ RI L B M ∧ RT (B 5) M ∧ (B 6 0 0 = M 0 1 ∧ B 6 0 1 = M 0 10) ∧ (∀ k, k < 4 → RS (B (7 + k)) M k) ∧ RC M
/-- all but the pages is the same -/
def SMx (M M' : oa_I2) : Prop := M' 2 = M 2 ∧ M' 0 0 = M 0 0 ∧ M' 0 1 = M 0 1 ∧ M' 0 10 = M 0 10 ∧ M' 5 = M 5 ∧ M' 6 = M 6 ∧ M' 7 = M 7 ∧ M' 11 = M 11 ∧ M' 12 = M 12 ∧ M' 13 = M 13 ∧ M' 14 = M 14
def SBx (B B' : oa_I3) : Prop := ∀ a, 3 ≤ a → a ≤ 10 → B' a = B a
theorem RV_ext {n L : Nat} {R P P' : oa_P} {V : oa_I2} (e : ∀ k, k < 100 → P' k = P k) (h : RV n L R P V) : RV n L R P' V := by
  obtain ⟨h1, h2, h3, h4⟩ := h
  refine ⟨CV_ext (fun k hk => e k (by omega)) h1, PW_ext (fun k hk => e k (by omega)) h2, (e 99 (by omega)).trans h3, fun p hp => ?_⟩
  have := h1.1.1
  obtain ⟨g1, g2, g3⟩ := h4 p hp
  refine ⟨?_, fun w w1 w2 => ?_, ?_⟩
  · rw [e _ (by omega)]; exact g1
  · rw [e _ (by omega)]; exact g2 w w1 w2
  · rw [e _ (by omega)]; exact g3
theorem Rel_step {B B' : oa_I3} {M M' : oa_I2} (h : Rel B M) (sx : SMx M M') (hi : ∀ k, 100 ≤ k → k < 360 → M' 1 k = M 1 k) (sb : SBx B B') (hv : ∀ n L, RR (M 2) L → RV n L (M 2) (M 1) (B 0) → RV n L (M 2) (M' 1) (B' 0)) : Rel B' M' := by
  obtain ⟨n, L, h1, h2, h3, h4, h5, h6, h7⟩ := h
  obtain ⟨x1, x2, x3, x4, x5, x6, x7, x8, x9, x10, x11⟩ := sx
  refine ⟨n, L, x1 ▸ h1, x1 ▸ hv n L h1 h2, fun k hk => ?_, ?_, ?_, fun k hk => ?_, ?_⟩
  · rw [x8, x1, sb 6 (by omega) (by omega), sb (3 + k) (by omega) (by omega)]
    obtain ⟨g1, g2⟩ := h3 k hk
    refine ⟨g1, ?_⟩
    rcases g2 with g | ⟨g, n', g'⟩
    · exact Or.inl g
    · refine Or.inr ⟨g, n', RV_ext (fun j hj => ?_) g'⟩
      show M' 1 (120 * (k + 1) + j) = M 1 (120 * (k + 1) + j)
      exact hi _ (by omega) (by omega)
  · rw [sb 5 (by omega) (by omega)]
    obtain ⟨t, t1, t2, t3, t4⟩ := h4
    exact ⟨t, t1, t2, by rw [x2]; exact t3, fun k hk => by rw [x5]; exact t4 k hk⟩
  · rw [sb 6 (by omega) (by omega), x3, x4]; exact h5
  · rw [sb (7 + k) (by omega) (by omega)]
    unfold RS
    rw [x9, x10, x11]; exact h6 k hk
  · unfold RC
    rw [x6, x7]; exact h7
theorem Rel_trial {B : oa_I3} {M : oa_I2} {X : oa_I2} {a : Nat} {P : oa_P} {w : Int32} (h : Rel B M) (ha : 360 ≤ a) : Rel (va_up B 1 X) (oa_ms M a P w) := by
  refine Rel_step h ⟨rfl, rfl, rfl, rfl, rfl, rfl, rfl, rfl, rfl, rfl, rfl⟩ (fun k _ hk => ?_) (fun a h1 h2 => va_up_n _ _ (by omega)) (fun n L _ g => ?_)
  · rw [oa_ms_at, if_pos (by omega)]
  · refine RV_ext (fun k hk => ?_) g
    rw [oa_ms_at, if_pos (by omega)]
section A0
variable {M : oa_I2} {K : oa_J2} {n : Nat}
theorem md_age0 {r p : Nat} (hr : r < 6) (hp : p < 7) : f_X7_age M K 0 (nI r) (nI p) = some (M 1 (48 + (7 * r + p))) := by
  have := md_age (M := M) (K := K) (a := 0) (by omega) hr hp
  rwa [oa_pg0] at this
theorem md_angers0 {r : Nat} (hr : r < 6) : f_X7_angers M K 0 (nI r) = some (oa_cn (an (M 1) r) 7) := by
  have := md_angers (M := M) (K := K) (a := 0) (by omega) hr
  rwa [oa_pg0] at this
theorem md_isFree0 {r : Nat} (hr : r < 6) : f_X7_isFree M K 0 (nI r) = some (oa_bi (fr (M 2) (M 1) r)) := by
  have := md_isFree (M := M) (K := K) (a := 0) (by omega) hr
  rwa [oa_pg0] at this
theorem md_cost0 {r : Nat} (hr : r < 6) : f_X7_cost M K 0 (nI r) = some (co (M 2) (M 1) r) := by
  have := md_cost (M := M) (K := K) (a := 0) (by omega) hr
  rwa [oa_pg0] at this
theorem md_freeOnes0 (hn : M 1 99 = nI n) (h6 : n ≤ 6) : f_X7_freeOnes M K 0 = some (oa_mk (fr (M 2) (M 1)) n) := by
  have := md_freeOnes (M := M) (K := K) (a := 0) hn h6 (by omega)
  rwa [oa_pg0] at this
theorem md_seenFree0 (hn : M 1 99 = nI n) (h6 : n ≤ 6) : f_X7_seenFree M K 0 = some (oa_mk (sn (M 2) (M 1)) n) := by
  have := md_seenFree (M := M) (K := K) (a := 0) hn h6 (by omega)
  rwa [oa_pg0] at this
theorem md_worthBy0 {p q : Nat} {x : Int32} (hn : M 1 99 = nI n) (h6 : n ≤ 6) (hp : p < 6) (hq : q < 6) : f_X7_worthBy M K 0 (nI p) (nI q) x = some (val (M 2) (M 1) q (fun r => bt x r && can (M 1) p r) n) := by
  have := md_worthBy (M := M) (K := K) (a := 0) (x := x) hn h6 (by omega) hp hq
  rwa [oa_pg0] at this
theorem md_chosen0 {p : Nat} {x : Int32} (hn : M 1 99 = nI n) (h6 : n ≤ 6) (hp : p < 6) : f_X7_chosen M K 0 (nI p) x = some (chs (M 2) (M 1) n p (fun r => bt x r && can (M 1) p r) n).1 := by
  have := md_chosen (M := M) (K := K) (a := 0) (x := x) hn h6 (by omega) hp
  rwa [oa_pg0] at this
theorem md_wouldOf0 {p q : Nat} (hn : M 1 99 = nI n) (h6 : n ≤ 6) (hp : p < 6) (hq : q < 6) : f_X7_wouldOf M K 0 (nI p) (nI q) = some (oa_mk (wo (M 2) (M 1) p q) n) := by
  have := md_wouldOf (M := M) (K := K) (a := 0) hn h6 (by omega) hp hq
  rwa [oa_pg0] at this
theorem oa_ms0 (P : oa_P) (w : Int32) : oa_ms M 0 P w 1 = P := rfl
theorem oa_ms_M : oa_ms M 0 (M 1) (M 0 9) = M := by
  have := oa_ms_id (M := M) (a := 0)
  rwa [oa_pg0] at this
theorem md_wrongs0 {p q : Nat} (hn : M 1 99 = nI n) (h6 : n ≤ 6) (hp : p < 6) (hq : q < 6) : f_X7_wrongs M K 0 (nI p) (nI q) = some (oa_ms M 0 (pw (M 2) (M 1) n p q) (M 0 9)) := by
  have := md_wrongs (M := M) (K := K) (a := 0) (P := M 1) (w := M 0 9) (n := n) ⟨h6, by omega, Or.inl ⟨rfl, hn⟩⟩ hp hq
  rwa [oa_ms_M] at this
theorem md_week0 {P : oa_P} {w : Int32} (hn : P 99 = nI n) (h6 : n ≤ 6) : f_X7_week (oa_ms M 0 P w) K 0 = some (oa_ms M 0 (wk (M 2) n P).1 (wk (M 2) n P).2) := md_week (a := 0) ⟨h6, by omega, Or.inl ⟨rfl, hn⟩⟩
theorem md_isOne {x : Int32} (hn : M 1 99 = nI n) : f_X7_isOne M K x = some (oa_bi (oa_wi x 0 (nI n - 1))) := by
  unfold f_X7_isOne
  rw [md_many hn, oa_bs]
  have := f_in x 0 (nI n - 1)
  rw [show (0 : Int64) = (0 : Int32).toInt64 from by decide, this, oa_bs, oa_zc_bi, oa_bs]
theorem md_isWrong {x y : Int32} (hn : M 1 99 = nI n) : f_X7_isWrong M K x y = some (oa_bi (oa_wi x 0 (nI n - 1) && oa_wi y 0 (nI n - 1) && !decide (x = y))) := by
  unfold f_X7_isWrong
  simp (disch := (first | omega | assumption | decide)) only [md_isOne hn, oa_ut, oa_bs, oa_lt, oa_ile, oa_inle, oa_ilt, oa_inlt, oa_ieq, oa_ineq, oa_rd_nI, oa_wr_nI, oa_rd_0, oa_rd_1, oa_wr_0, oa_wr_1, oa_rdL_nI, oa_wrL_nI, oa_bi_if0, oa_bi_if1, oa_zc_bi, oa_if_b0, oa_if_b1, nI_1, nI_add, pk_mul, Nat.add_assoc, Int32.add_zero, Int32.sub_zero, Int32.or_zero, Int32.and_neg_one, va_up_s, va_up_n, upd_s, oa_up2, ite_self, if_true, if_false, oa_10, oa_01, oa_neg4, oa_ifno, oa_l2, oa_l3, oa_l4, oa_l5, oa_l6, oa_l7, oa_l8, oa_l9, oa_l10, oa_l12, oa_l15, oa_l16, oa_l20, oa_l32, oa_l40, oa_l42, oa_l48, oa_l64, oa_l90, oa_l96, oa_l97, oa_l98, oa_l99, oa_l100, oa_l120, oa_l360, oa_l450, oa_l457, oa_l458, oa_l480, oa_l528]
  cases oa_wi x 0 (nI n - 1) <;> cases oa_wi y 0 (nI n - 1) <;> by_cases e : x = y <;> simp [e, oa_bi]
theorem md_isWhom {x y : Int32} (hn : M 1 99 = nI n) : f_X7_isWhom M K x y = some (oa_bi (oa_wi x 0 (nI n - 1) && (decide (y = nI 6) || (oa_wi y 0 (nI n - 1) && !decide (x = y))))) := by
  unfold f_X7_isWhom
  simp (disch := (first | omega | assumption | decide)) only [md_isOne hn, oa_ut, oa_bs, oa_lt, oa_ile, oa_inle, oa_ilt, oa_inlt, oa_ieq, oa_ineq, oa_rd_nI, oa_wr_nI, oa_rd_0, oa_rd_1, oa_wr_0, oa_wr_1, oa_rdL_nI, oa_wrL_nI, oa_bi_if0, oa_bi_if1, oa_zc_bi, oa_if_b0, oa_if_b1, nI_1, nI_add, pk_mul, Nat.add_assoc, Int32.add_zero, Int32.sub_zero, Int32.or_zero, Int32.and_neg_one, va_up_s, va_up_n, upd_s, oa_up2, ite_self, if_true, if_false, oa_10, oa_01, oa_neg4, oa_ifno, oa_l2, oa_l3, oa_l4, oa_l5, oa_l6, oa_l7, oa_l8, oa_l9, oa_l10, oa_l12, oa_l15, oa_l16, oa_l20, oa_l32, oa_l40, oa_l42, oa_l48, oa_l64, oa_l90, oa_l96, oa_l97, oa_l98, oa_l99, oa_l100, oa_l120, oa_l360, oa_l450, oa_l457, oa_l458, oa_l480, oa_l528]
  cases oa_wi x 0 (nI n - 1)
  · rfl
  · by_cases e : y = nI 6
    · simp [e, oa_bi]
    · simp only [e, if_true, if_false]
      cases oa_wi y 0 (nI n - 1) <;> by_cases e2 : x = y <;> simp [e2, oa_bi, eq_comm]
/-- two people -/
theorem oa_two {x y : Int32} (h6 : n ≤ 6) (h : (oa_wi x 0 (nI n - 1) && oa_wi y 0 (nI n - 1) && !decide (x = y)) = true) : ∃ p q, p < n ∧ q < n ∧ p ≠ q ∧ x = nI p ∧ y = nI q := by
  rw [Bool.and_eq_true, Bool.and_eq_true] at h
  obtain ⟨p, hp, rfl⟩ := oa_has_t h6 h.1.1
  obtain ⟨q, hq, rfl⟩ := oa_has_t h6 h.1.2
  refine ⟨p, q, hp, hq, fun e => ?_, rfl, rfl⟩
  have := h.2
  rw [e] at this
  simp at this
theorem oa_whom {x y : Int32} (h6 : n ≤ 6) (h : (oa_wi x 0 (nI n - 1) && (decide (y = nI 6) || (oa_wi y 0 (nI n - 1) && !decide (x = y)))) = true) : ∃ r p, r < n ∧ (p < n ∨ p = 6) ∧ p ≠ r ∧ x = nI r ∧ y = nI p := by
  rw [Bool.and_eq_true, Bool.or_eq_true] at h
  obtain ⟨r, hr, rfl⟩ := oa_has_t h6 h.1
  rcases h.2 with h2 | h2
  · exact ⟨r, 6, hr, Or.inr rfl, by omega, rfl, of_decide_eq_true h2⟩
  · rw [Bool.and_eq_true] at h2
    obtain ⟨p, hp, rfl⟩ := oa_has_t h6 h2.1
    refine ⟨r, p, hr, Or.inl hp, fun e => ?_, rfl, rfl⟩
    have := h2.2
    rw [e] at this
    simp at this
end A0
