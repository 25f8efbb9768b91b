/-! the lines' loop -/
section LY
variable {K : oa_J2} {t : Nat} {f : Nat → Nat}
theorem lines {T M V : oa_I2} {s e k n : Nat} (h : TP t f T M) (ho : OKt t f T M s e k) (hc : RC M) (hX : TDX n 0 V (M 4)) (hV : V 5 0 = nI n) (h99 : M 4 99 = nI n) (hR : TDR V (M 3)) (h8 : R8 (T 1 8) (M 0 8)) (h3 : T 1 3 = 0) : ZE t f K T M (l_X4_tell_34 oa_fu T V 1 0) (l_X7_village_64 K oa_fu M 0) := by
  have ht := h.1
  unfold l_X4_tell_34 l_X7_village_64
  refine oa_for2 (ZE t f K T M) (fun i (a : oa_I2 × oa_I2 × Int32 × Int32) (b : oa_I2 × Int32) => FC T a.1 ∧ FG M b.1 ∧ a.2.2.2 = nI i ∧ ((a.2.2.1 = 1 ∧ a.1 1 3 = b.2 ∧ R8 (a.1 1 8) (b.1 0 8) ∧ TDR a.2.1 (b.1 3) ∧ (∃ m : Nat, a.2.1 5 0 = nI m ∧ b.1 4 99 = nI m ∧ TDX m 0 a.2.1 (b.1 4)) ∧ ∃ s e k, OKt t f a.1 b.1 s e k ∧ i ≤ s) ∨ (a.2.2.1 = 0 ∧ BRt t a.1 b.1 ∧ ∃ q : Nat, q ≤ 6 ∧ b.1 4 99 = nI q))) 320 ⟨FC_refl _, FG_refl _, rfl, Or.inl ⟨rfl, h3, h8, hR, ⟨n, hV, h99, hX⟩, s, e, k, ho, by omega⟩⟩ ?_ ?_ oa_fu oa_fu (by rw [oa_fu_eq]; omega) (by rw [oa_fu_eq]; omega)
  · rintro i hi ⟨T1, V1, fl, x2⟩ ⟨M1, c⟩ ⟨f1, f2, f3, f4⟩ kk ll
    simp only at f1 f2 f3 f4
    subst f3
    show (∃ s' t', _ ∧ b_X4_tell_34 (fun T V a b => kk (T, V, a, b)) T1 V1 fl (nI i) = _ ∧ b_X7_village_64 K (fun M a => ll (M, a)) M1 c = _) ∨ ZE t f K T M (b_X4_tell_34 (fun T V a b => kk (T, V, a, b)) T1 V1 fl (nI i)) (b_X7_village_64 K (fun M a => ll (M, a)) M1 c)
    rcases f4 with ⟨g1, g2, g3, g4, ⟨m, g5, g6, g7⟩, s1, e1, k1, g8, g9⟩ | ⟨g1, g2, g3⟩
    · subst g1
      have g8' := g8
      obtain ⟨o1, o2, o3, o4, o5, o6, o7, o8, o9, o10, o11, o12, o13, o14⟩ := g8'
      by_cases k0 : k1 = 0
      · subst k0
        right
        exact ⟨T1, V1, M1, c, f1, f2, v88_end g8, Or.inl ⟨t34_e o5, g2, g4, ⟨m, g5, g6, g7⟩, s1, e1, g8⟩⟩
      · left
        obtain ⟨T2, V2, M2, p1, p2, p3, p4⟩ := line (K := K) (TP_G h f1 f2) g8 (RC_G hc f2) g7 g5 g6 g4 g3
        have hm : b_X7_village_64 K (fun M a => ll (M, a)) M1 c = ll (M2, c + 1) := by
          unfold b_X7_village_64
          rw [if_pos o9, o6, if_neg (show ¬ nI k1 = 0 from nI_neq (b := 0) k0 (by omega) (by omega)), p3]
          rfl
        rcases p4 with ⟨q1, q2, q3, q4, q5, s2, e2, k2, q6, q7⟩ | ⟨q1, q2, q3⟩
        · refine ⟨(T2, V2, 1, nI (i + 1)), (M2, c + 1), ⟨FC_trans f1 p1, FG_trans f2 p2, rfl, Or.inl ⟨rfl, q2.trans (by rw [g2]), q3, q4, q5, s2, e2, k2, q6, by have := o13 k0; omega⟩⟩, ?_, hm⟩
          rw [tell_s hi o5 k0 o7, q1]
          rfl
        · refine ⟨(T2, V2, 0, nI (i + 1)), (M2, c + 1), ⟨FC_trans f1 p1, FG_trans f2 p2, rfl, Or.inr ⟨rfl, q2, q3⟩⟩, ?_, hm⟩
          rw [tell_s hi o5 k0 o7, q1]
          rfl
    · subst g1
      right
      exact ⟨T1, V1, M1, c, f1, f2, v88_br g2, Or.inr ⟨t34_0, g2, g3⟩⟩
  · rintro ⟨T1, V1, fl, x2⟩ ⟨M1, c⟩ ⟨f1, f2, f3, f4⟩ kk ll
    simp only at f1 f2 f3 f4
    subst f3
    show ZE t f K T M (b_X4_tell_34 (fun T V a b => kk (T, V, a, b)) T1 V1 fl (nI 320)) (b_X7_village_64 K (fun M a => ll (M, a)) M1 c)
    rcases f4 with ⟨g1, g2, g3, g4, g5, s1, e1, k1, g8, g9⟩ | ⟨g1, g2, g3⟩
    · subst g1
      have g8' := g8
      obtain ⟨o1, o2, o3, o4, o5, o6, o7, o8, o9, o10, o11, o12, o13, o14⟩ := g8'
      have k0 : k1 = 0 := Decidable.byContradiction fun q => by have := o13 q; omega
      subst k0
      exact ⟨T1, V1, M1, c, f1, f2, v88_end g8, Or.inl ⟨t34_e o5, g2, g4, g5, s1, e1, g8⟩⟩
    · subst g1
      exact ⟨T1, V1, M1, c, f1, f2, v88_br g2, Or.inr ⟨t34_0, g2, g3⟩⟩
end LY
