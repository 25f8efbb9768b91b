/-! one line -/
/-- what a line gives: n is the number of ones before, m behind -/
def LE (t : Nat) (f : Nat → Nat) (a : Nat) (T0 M0 : oa_I2) (o1 : Option (Int32 × oa_I2 × oa_I2)) (o2 : Option oa_I2) : Prop := ∃ T' V' M', FC T0 T' ∧ FG M0 M' ∧ o2 = some M' ∧ ((o1 = some (1, T', V') ∧ T' 1 3 = T0 1 3 + 1 ∧ R8 (T' 1 8) (M' 0 8) ∧ TDR V' (M' 3) ∧ (∃ m : Nat, V' 5 0 = nI m ∧ M' 4 99 = nI m ∧ TDX m 0 V' (M' 4)) ∧ ∃ s e k, OKt t f T' M' s e k ∧ a ≤ s) ∨ (o1 = some (0, T', V') ∧ BRt t T' M' ∧ ∃ q : Nat, q ≤ 6 ∧ M' 4 99 = nI q))
section LN
variable {K : oa_J2} {t : Nat} {f : Nat → Nat} {n : Nat}
theorem line {T M V : oa_I2} {s e k : Nat} (h : TP t f T M) (ho : OKt t f T M s e k) (hc : RC M) (hX : TDX n 0 V (M 4)) (hV : V 5 0 = nI n) (h99 : M 4 99 = nI n) (hR : TDR V (M 3)) (h8 : R8 (T 1 8) (M 0 8)) : LE t f e T M ((f_X4_lineNamed T V).bind fun (y19 : Int32) => if y19 = (-4) then ((f_X4_misplaced T V).bind <| oa_u fun (y34 : Int32) (T35 : oa_I2) => some (y34, T35, V)) else if y19 = 3 then f_X4_takeOne T V else f_X4_takeRule T V y19) (f_X7_readLine M K) := by
  have hn6 := hX.1
  obtain ⟨x, x1, x2⟩ := md_nameHere (K := K) h (OK_HM ho) hc
  obtain ⟨l1, l2, l3⟩ := cl_line (V := V) h ho x2
  unfold f_X7_readLine
  rw [x1]
  simp only [oa_bs]
  by_cases h0 : x = nI 0
  · obtain ⟨T', V', M', p1, p2, p3, p4⟩ := one (K := K) h ho hc hX hV h99
    rw [l1 h0, h0, in_03 0 (by omega), decide_eq_true (show 0 ≤ 3 by omega)]
    simp only [oa_bs]
    rw [if_neg (show ¬ (3 : Int32) = -4 by decide), if_pos trivial, if_neg (show ¬ oa_bi true = 0 by decide), if_pos (show nI 0 = 0 from rfl)]
    refine ⟨T', V', M', p1, p2, p3, ?_⟩
    rcases p4 with ⟨q1, q2, q3, q4, q5, q6, q7, q8, q9, q10⟩ | q
    · refine Or.inl ⟨q1, q2, by rw [q3, q5]; exact h8, ?_, ⟨n + 1, q7, q8, q9⟩, q10⟩
      rw [q4]
      exact ⟨fun k hk => by rw [q6]; exact hR.1 k hk, hR.2⟩
    · exact Or.inr q
  · by_cases hw : ∃ w, w < 3 ∧ x = nI (w + 1)
    · obtain ⟨w, w3, ew⟩ := hw
      obtain ⟨T', V', M', p1, p2, p3, p4, p5⟩ := rule (K := K) w3 h ho hR h8
      rw [l2 w w3 ew, ew, in_03 (w + 1) (by omega), decide_eq_true (show w + 1 ≤ 3 by omega)]
      simp only [oa_bs]
      rw [if_neg (show ¬ nI w = -4 from oa_no (by omega)), if_neg (show ¬ nI w = 3 from nI_neq (b := 3) (by omega) (by omega) (by omega)), if_neg (show ¬ oa_bi true = 0 by decide), if_neg (show ¬ nI (w + 1) = 0 from nI_neq (b := 0) (by omega) (by omega) (by omega))]
      refine ⟨T', V', M', p1, p2, p4, ?_⟩
      rcases p5 with ⟨q1, q2, q3, q4, ⟨g, q5⟩, q6⟩ | ⟨q1, q2⟩
      · refine Or.inl ⟨q1, q2, q3, q4, ⟨n, ?_, by rw [p3]; exact h99, ?_⟩, q6⟩
        · rw [q5, va_up_n _ _ (by omega)]; exact hV
        · rw [q5, p3]; exact TDX_vr hX
      · exact Or.inr ⟨q1, q2, n, hn6, by rw [p3]; exact h99⟩
    · have hnw : ∀ w, w < 4 → ¬ x = nI w := fun w w4 c => by
        by_cases w0 : w = 0
        · exact h0 (by rw [c, w0])
        · exact hw ⟨w - 1, by omega, by rw [c, show w - 1 + 1 = w by omega]⟩
      have hin : f_X7_in x.toInt64 0 3 = some (oa_bi false) := by
        rcases x2 with ⟨j, j13, c, _⟩ | ⟨c, _⟩
        · rw [c, in_03 j j13, decide_eq_false (fun q => hnw j (by omega) c)]
        · rw [c, in_03n]
      obtain ⟨T2, M2, r1, r2, r3, r4, r5⟩ := both_mis (K := K) (V := V) ho
      rw [l3 hnw, hin]
      simp only [oa_bs]
      rw [if_pos trivial, if_pos (show oa_bi false = 0 from rfl), r1, r2]
      exact ⟨T2, V, M2, FC_of (FS_of r3), FG_of r4, rfl, Or.inr ⟨rfl, r5, n, hn6, by rw [r4.1 4 (by omega)]; exact h99⟩⟩
end LN
