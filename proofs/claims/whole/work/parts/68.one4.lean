/-! a line that tells one: its head -/
section OH
variable {K : oa_J2} {t : Nat} {f : Nat → Nat} {n : Nat}
theorem br_48 {T M : oa_I2} {x : Int32} (hn : n < 6) (hb : BRt t T M) (hT : TP t f T M) (hc : RC M) : ∃ g, b_X7_readOne_48 K M (nI n) x = some (va_up M 4 g) ∧ g 99 = M 4 99 + 1 := by
  have hG : FG M (va_up M 4 (upd (M 4) (8 * n + 0) (x - 4))) := FG_r (Or.inr rfl)
  obtain ⟨g, g1, g2⟩ := br_68 (K := K) hn 4 0 oa_fu (va_up M 4 (upd (M 4) (8 * n + 0) (x - 4))) (by omega) (by rw [oa_fu_eq]; omega) (BR_r hb (by omega)) (TP_G hT (FC_refl _) hG) (RC_G hc hG)
  have e : b_X7_readOne_48 K M (nI n) x = oa_fix (o68 K n) oa_fu (va_up M 4 (upd (M 4) (8 * n + 0) (x - 4)), nI (1 + 0)) := by
    unfold b_X7_readOne_48
    rw [br_step hb]
    simp only [oa_bs]
    rw [show (8 : Int32) * nI n + 0 = nI (8 * n + 0) from i_8p n 0, oa_wr_nI (by omega) (by omega)]
    rfl
  rw [e, g1, oa_up2]
  exact ⟨g, rfl, by rw [g2, va_up_s, upd_n _ _ (by omega)]⟩
theorem cl_sort {T M V : oa_I2} {s e k : Nat} {x : Int32} (h : TP t f T M) (ho : OKt t f T M s e k) (hx : NH f s e k x) : (∀ w, w < 5 → x = nI (4 + w) → f_X4_sortNamed T V = some (nI w)) ∧ ((∀ w, w < 5 → ¬ x = nI (4 + w)) → f_X4_sortNamed T V = some (-4)) := by
  unfold f_X4_sortNamed
  rw [cl_isNameN (V := V) h ho (show 4 < 13 by omega) hx, cl_isNameN (V := V) h ho (show 5 < 13 by omega) hx, cl_isNameN (V := V) h ho (show 6 < 13 by omega) hx, cl_isNameN (V := V) h ho (show 7 < 13 by omega) hx, cl_isNameN (V := V) h ho (show 8 < 13 by omega) hx]
  constructor
  · intro w hw e
    subst e
    have : ∀ w, w < 5 → ((some (oa_bi (decide (nI (4 + w) = nI 4)))).bind fun (y1 : Int32) => if y1 = 0 then ((some (oa_bi (decide (nI (4 + w) = nI 5)))).bind fun (y5 : Int32) => if y5 = 0 then ((some (oa_bi (decide (nI (4 + w) = nI 6)))).bind fun (y9 : Int32) => if y9 = 0 then ((some (oa_bi (decide (nI (4 + w) = nI 7)))).bind fun (y13 : Int32) => if y13 = 0 then ((some (oa_bi (decide (nI (4 + w) = nI 8)))).bind fun (y17 : Int32) => if y17 = 0 then some (-4) else some 4) else some 3) else some 2) else some 1) else some 0) = some (nI w) := by decide +kernel
    exact this w hw
  · intro hn
    rw [decide_eq_false (hn 0 (by omega)), decide_eq_false (hn 1 (by omega)), decide_eq_false (hn 2 (by omega)), decide_eq_false (hn 3 (by omega)), decide_eq_false (hn 4 (by omega))]
    rfl
theorem cl_line {T M V : oa_I2} {s e k : Nat} {x : Int32} (h : TP t f T M) (ho : OKt t f T M s e k) (hx : NH f s e k x) : (x = nI 0 → f_X4_lineNamed T V = some 3) ∧ (∀ w, w < 3 → x = nI (w + 1) → f_X4_lineNamed T V = some (nI w)) ∧ ((∀ w, w < 4 → ¬ x = nI w) → f_X4_lineNamed T V = some (-4)) := by
  unfold f_X4_lineNamed
  rw [cl_isNameN (V := V) h ho (show 0 < 13 by omega) hx, cl_isNameN (V := V) h ho (show 1 < 13 by omega) hx, cl_isNameN (V := V) h ho (show 2 < 13 by omega) hx, cl_isNameN (V := V) h ho (show 3 < 13 by omega) hx]
  refine ⟨?_, ?_, ?_⟩
  · intro e
    subst e
    rfl
  · intro w hw e
    subst e
    have : ∀ w, w < 3 → ((some (oa_bi (decide (nI (w + 1) = nI 0)))).bind fun (y1 : Int32) => if y1 = 0 then ((some (oa_bi (decide (nI (w + 1) = nI 1)))).bind fun (y5 : Int32) => if y5 = 0 then ((some (oa_bi (decide (nI (w + 1) = nI 2)))).bind fun (y9 : Int32) => if y9 = 0 then ((some (oa_bi (decide (nI (w + 1) = nI 3)))).bind fun (y13 : Int32) => if y13 = 0 then some (-4) else some 2) else some 1) else some 0) else some 3) = some (nI w) := by decide +kernel
    exact this w hw
  · intro hn
    rw [decide_eq_false (hn 0 (by omega)), decide_eq_false (hn 1 (by omega)), decide_eq_false (hn 2 (by omega)), decide_eq_false (hn 3 (by omega))]
    rfl
theorem in_48 : ∀ j, j < 13 → f_X7_in (nI j).toInt64 4 8 = some (oa_bi (decide (4 ≤ j ∧ j ≤ 8))) := by decide +kernel
theorem in_03 : ∀ j, j < 13 → f_X7_in (nI j).toInt64 0 3 = some (oa_bi (decide (j ≤ 3))) := by decide +kernel
theorem in_48n : f_X7_in oNO.toInt64 4 8 = some (oa_bi false) := by decide +kernel
theorem in_03n : f_X7_in oNO.toInt64 0 3 = some (oa_bi false) := by decide +kernel
end OH
