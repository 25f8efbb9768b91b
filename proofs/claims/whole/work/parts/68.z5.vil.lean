/-! a village told: starts and ends of both -/
section VS
variable {M : oa_I2} {K : oa_J2}
/-- the model's start -/
theorem md_vstart : ∃ MS : oa_I2, FG M MS ∧ MS 0 2 = 0 ∧ MS 0 4 = 0 ∧ MS 0 8 = 0 ∧ (∀ k, k < 100 → MS 4 k = 0) ∧ MS 3 0 = 1 ∧ MS 3 1 = 4 ∧ MS 3 2 = 10 ∧ f_X7_village M K = (f_X7_step MS K).bind fun M20 => l_X7_village_64 K oa_fu M20 0 := by
  unfold f_X7_village
  simp only [oa_lt]
  unfold l_X7_village_19
  refine oa_forR (fun o => ∃ MS : oa_I2, FG M MS ∧ MS 0 2 = 0 ∧ MS 0 4 = 0 ∧ MS 0 8 = 0 ∧ (∀ k, k < 100 → MS 4 k = 0) ∧ MS 3 0 = 1 ∧ MS 3 1 = 4 ∧ MS 3 2 = 10 ∧ o = (f_X7_step MS K).bind fun M20 => l_X7_village_64 K oa_fu M20 0) (fun i (s : oa_I2 × Int32) => FG M s.1 ∧ s.1 0 2 = 0 ∧ s.1 0 4 = 0 ∧ s.1 0 8 = 0 ∧ (∀ k, k < i → s.1 4 k = 0) ∧ s.2 = nI i) 100 ⟨?_, ?_, ?_, ?_, fun k hk => absurd hk (by omega), rfl⟩ ?_ ?_ oa_fu (by rw [oa_fu_eq]; omega)
  · refine ⟨fun b b0 b3 b4 => ?_, fun j hj => ?_⟩
    · dsimp only
      rw [va_up_n _ _ b0, va_up_n _ _ b0, va_up_n _ _ b0]
    · dsimp only
      rw [rd0n _ _ (by omega), rd0n _ _ (by omega), rd0n _ _ (by omega)]
  · dsimp only
    rw [rd0n _ _ (by omega), rd0n _ _ (by omega), rd0]
  · dsimp only
    rw [rd0n _ _ (by omega), rd0]
  · dsimp only
    rw [rd0]
  · rintro i hi ⟨M1, x⟩ ⟨h1, h2, h3, h4, h5, h6⟩
    simp only at h1 h2 h3 h4 h5 h6
    subst h6
    left
    refine ⟨(va_up M1 4 (upd (M1 4) i 0), nI (i + 1)), ⟨FG_trans h1 (FG_r (Or.inr rfl)), ?_, ?_, ?_, fun k hk => ?_, rfl⟩, fun k => ?_⟩
    · dsimp only
      rw [va_up_n _ _ (by omega)]; exact h2
    · dsimp only
      rw [va_up_n _ _ (by omega)]; exact h3
    · dsimp only
      rw [va_up_n _ _ (by omega)]; exact h4
    · show va_up M1 4 (upd (M1 4) i 0) 4 k = 0
      rw [va_up_s]
      by_cases e : k = i
      · rw [e, upd_s]
      · rw [upd_n _ _ e]; exact h5 k (by omega)
    · show b_X7_village_19 K 0 (fun M x2 => k (M, x2)) M1 (nI i) = _
      unfold b_X7_village_19
      rw [if_neg (show ¬ (100 : Int32) ≤ nI i from nI_ge (b := 100) hi (by omega)), oa_wr_nI (by omega) (by omega), oa_bs, oa_lt, nI_1]
  · rintro ⟨M1, x⟩ ⟨h1, h2, h3, h4, h5, h6⟩
    simp only at h1 h2 h3 h4 h5 h6
    subst h6
    refine ⟨_, ⟨va_up (va_up (va_up M1 3 (upd (M1 3) 0 1)) 3 (upd (va_up M1 3 (upd (M1 3) 0 1) 3) 1 4)) 3 (upd (va_up (va_up M1 3 (upd (M1 3) 0 1)) 3 (upd (va_up M1 3 (upd (M1 3) 0 1) 3) 1 4) 3) 2 10), FG_trans h1 (FG_trans (FG_r (Or.inl rfl)) (FG_trans (FG_r (Or.inl rfl)) (FG_r (Or.inl rfl)))), h2, h3, h4, h5, ?_, ?_, ?_, rfl⟩, fun k => ?_⟩
    · rw [va_up_s, upd_n _ _ (by omega), va_up_s, upd_n _ _ (by omega), va_up_s, upd_s]
    · rw [va_up_s, upd_n _ _ (by omega), va_up_s, upd_s]
    · rw [va_up_s, upd_s]
    · show b_X7_village_19 K 0 (fun M x2 => k (M, x2)) M1 (nI 100) = _
      unfold b_X7_village_19
      rw [if_pos (show (100 : Int32) ≤ nI 100 by decide)]
      rw [show oa_wr (M1 3) 3 0 1 = some (upd (M1 3) 0 1) from oa_wr_nI (i := 0) (by omega) (by omega), oa_bs, oa_lt]
      rw [show ∀ g : Nat → Int32, oa_wr g 3 1 4 = some (upd g 1 4) from fun g => oa_wr_nI (i := 1) (by omega) (by omega), oa_bs, oa_lt]
      rw [show ∀ g : Nat → Int32, oa_wr g 3 2 10 = some (upd g 2 10) from fun g => oa_wr_nI (i := 2) (by omega) (by omega), oa_bs, oa_lt]
/-- the model's end -/
theorem md_148 {c : Int32} : ∃ ME : oa_I2, (∀ a, a ≠ 2 → a ≠ 11 → ME a = M a) ∧ (∀ k, k < 3 → ME 2 k = M 3 k) ∧ ME 11 0 = 0 ∧ ME 11 1 = 0 ∧ l_X7_village_148 K c oa_fu M 0 = some (c, ME) := by
  unfold l_X7_village_148
  refine oa_forR (fun o => ∃ ME : oa_I2, (∀ a, a ≠ 2 → a ≠ 11 → ME a = M a) ∧ (∀ k, k < 3 → ME 2 k = M 3 k) ∧ ME 11 0 = 0 ∧ ME 11 1 = 0 ∧ o = some (c, ME)) (fun i (s : oa_I2 × Int32) => (∀ a, a ≠ 2 → s.1 a = M a) ∧ (∀ k, k < i → s.1 2 k = M 3 k) ∧ s.2 = nI i) 3 ⟨fun _ _ => rfl, fun k hk => absurd hk (by omega), rfl⟩ ?_ ?_ oa_fu (by rw [oa_fu_eq]; omega)
  · rintro i hi ⟨M1, x⟩ ⟨h1, h2, h3⟩
    simp only at h1 h2 h3
    subst h3
    left
    refine ⟨(va_up M1 2 (upd (M1 2) i (M 3 i)), nI (i + 1)), ⟨fun a ha => ?_, fun k hk => ?_, rfl⟩, fun k => ?_⟩
    · show va_up M1 2 (upd (M1 2) i (M 3 i)) a = M a
      rw [va_up_n _ _ ha]; exact h1 a ha
    · show va_up M1 2 (upd (M1 2) i (M 3 i)) 2 k = M 3 k
      rw [va_up_s]
      by_cases e : k = i
      · rw [e, upd_s]
      · rw [upd_n _ _ e]; exact h2 k (by omega)
    · show b_X7_village_148 K c (fun M x2 => k (M, x2)) M1 (nI i) = _
      unfold b_X7_village_148
      rw [if_neg (show ¬ (3 : Int32) ≤ nI i from nI_ge (b := 3) hi (by omega)), oa_rd_nI (by omega) (by omega), oa_bs, oa_wr_nI (by omega) (by omega), oa_bs, oa_lt, nI_1, h1 3 (by omega)]
  · rintro ⟨M1, x⟩ ⟨h1, h2, h3⟩
    simp only at h1 h2 h3
    subst h3
    refine ⟨_, ⟨va_up (va_up M1 11 (upd (M1 11) 0 0)) 11 (upd (va_up M1 11 (upd (M1 11) 0 0) 11) 1 0), fun a a2 a11 => ?_, fun k hk => ?_, ?_, ?_, rfl⟩, fun k => ?_⟩
    · rw [va_up_n _ _ a11, va_up_n _ _ a11]; exact h1 a a2
    · rw [va_up_n _ _ (by omega), va_up_n _ _ (by omega)]; exact h2 k hk
    · rw [va_up_s, upd_n _ _ (by omega), va_up_s, upd_s]
    · rw [va_up_s, upd_s]
    · show b_X7_village_148 K c (fun M x2 => k (M, x2)) M1 (nI 3) = _
      unfold b_X7_village_148
      rw [if_pos (show (3 : Int32) ≤ nI 3 by decide), oa_nar0]
      rw [show oa_wr (M1 11) 2 0 0 = some (upd (M1 11) 0 0) from oa_wr_nI (i := 0) (by omega) (by omega), oa_bs, oa_lt]
      rw [show ∀ g : Nat → Int32, oa_wr g 2 1 0 = some (upd g 1 0) from fun g => oa_wr_nI (i := 1) (by omega) (by omega), oa_bs, oa_lt]
theorem md_vend {c : Int32} : ∃ ME : oa_I2, (∀ a, a ≠ 1 → a ≠ 2 → a ≠ 11 → ME a = M a) ∧ (∀ k, k < 100 → ME 1 k = M 4 k) ∧ (∀ k, k < 3 → ME 2 k = M 3 k) ∧ ME 11 0 = 0 ∧ ME 11 1 = 0 ∧ l_X7_village_122 K c oa_fu M 0 = some (c, ME) := by
  unfold l_X7_village_122
  refine oa_forR (fun o => ∃ ME : oa_I2, (∀ a, a ≠ 1 → a ≠ 2 → a ≠ 11 → ME a = M a) ∧ (∀ k, k < 100 → ME 1 k = M 4 k) ∧ (∀ k, k < 3 → ME 2 k = M 3 k) ∧ ME 11 0 = 0 ∧ ME 11 1 = 0 ∧ o = some (c, ME)) (fun i (s : oa_I2 × Int32) => (∀ a, a ≠ 1 → s.1 a = M a) ∧ (∀ k, k < i → s.1 1 k = M 4 k) ∧ s.2 = nI i) 100 ⟨fun _ _ => rfl, fun k hk => absurd hk (by omega), rfl⟩ ?_ ?_ oa_fu (by rw [oa_fu_eq]; omega)
  · rintro i hi ⟨M1, x⟩ ⟨h1, h2, h3⟩
    simp only at h1 h2 h3
    subst h3
    left
    refine ⟨(va_up M1 1 (upd (M1 1) i (M 4 i)), nI (i + 1)), ⟨fun a ha => ?_, fun k hk => ?_, rfl⟩, fun k => ?_⟩
    · show va_up M1 1 (upd (M1 1) i (M 4 i)) a = M a
      rw [va_up_n _ _ ha]; exact h1 a ha
    · show va_up M1 1 (upd (M1 1) i (M 4 i)) 1 k = M 4 k
      rw [va_up_s]
      by_cases e : k = i
      · rw [e, upd_s]
      · rw [upd_n _ _ e]; exact h2 k (by omega)
    · show b_X7_village_122 K c (fun M x2 => k (M, x2)) M1 (nI i) = _
      unfold b_X7_village_122
      rw [if_neg (show ¬ (100 : Int32) ≤ nI i from nI_ge (b := 100) hi (by omega)), oa_rd_nI (by omega) (by omega), oa_bs, oa_wr_nI (by omega) (by omega), oa_bs, oa_lt, nI_1, h1 4 (by omega)]
  · rintro ⟨M1, x⟩ ⟨h1, h2, h3⟩
    simp only at h1 h2 h3
    subst h3
    obtain ⟨ME, e1, e2, e3, e4, e5⟩ := md_148 (M := M1) (K := K) (c := c)
    refine ⟨_, ⟨ME, fun a a1 a2 a11 => (e1 a a2 a11).trans (h1 a a1), fun k hk => ?_, fun k hk => ?_, e3, e4, rfl⟩, fun k => ?_⟩
    · rw [e1 1 (by omega) (by omega)]; exact h2 k hk
    · rw [e2 k hk, h1 3 (by omega)]
    · show b_X7_village_122 K c (fun M x2 => k (M, x2)) M1 (nI 100) = _
      unfold b_X7_village_122
      rw [if_pos (show (100 : Int32) ≤ nI 100 by decide), e5]
end VS
section VC
variable {B : oa_I3} {J : oa_J2}
/-- the class's end -/
theorem cl_vend : ∃ BE : oa_I3, (∀ a, a ≠ 6 → BE a = B a) ∧ BE 6 0 = B 6 0 ∧ BE 6 1 0 = 0 ∧ BE 6 1 1 = 0 ∧ l_X6_village_52 J oa_fu B 0 = some (B 5 1 3, BE) := by
  unfold l_X6_village_52
  refine oa_forR (fun o => ∃ BE : oa_I3, (∀ a, a ≠ 6 → BE a = B a) ∧ BE 6 0 = B 6 0 ∧ BE 6 1 0 = 0 ∧ BE 6 1 1 = 0 ∧ o = some (B 5 1 3, BE)) (fun i (s : oa_I3 × Int32) => (∀ a, a ≠ 6 → s.1 a = B a) ∧ s.1 6 0 = B 6 0 ∧ (∀ k, k < i → s.1 6 1 k = 0) ∧ s.2 = nI i) 2 ⟨fun _ _ => rfl, rfl, fun k hk => absurd hk (by omega), rfl⟩ ?_ ?_ oa_fu (by rw [oa_fu_eq]; omega)
  · rintro i hi ⟨B1, x⟩ ⟨h1, h0, h2, h3⟩
    simp only at h1 h0 h2 h3
    subst h3
    left
    refine ⟨(va_up B1 6 (va_up (B1 6) 1 (upd (B1 6 1) i 0)), nI (i + 1)), ⟨fun a ha => ?_, ?_, fun k hk => ?_, rfl⟩, fun k => ?_⟩
    · show va_up B1 6 (va_up (B1 6) 1 (upd (B1 6 1) i 0)) a = B a
      rw [va_up_n _ _ ha]; exact h1 a ha
    · show va_up B1 6 (va_up (B1 6) 1 (upd (B1 6 1) i 0)) 6 0 = B 6 0
      rw [va_up_s, va_up_n _ _ (by omega)]; exact h0
    · show va_up B1 6 (va_up (B1 6) 1 (upd (B1 6 1) i 0)) 6 1 k = 0
      rw [va_up_s, va_up_s]
      by_cases e : k = i
      · rw [e, upd_s]
      · rw [upd_n _ _ e]; exact h2 k (by omega)
    · show b_X6_village_52 J (fun B x1 => k (B, x1)) B1 (nI i) = _
      unfold b_X6_village_52
      rw [if_neg (show ¬ (2 : Int32) ≤ nI i from nI_ge (b := 2) hi (by omega)), oa_nar0, oa_wr_nI (by omega) (by omega), oa_bs, oa_lt, nI_1]
  · rintro ⟨B1, x⟩ ⟨h1, h0, h2, h3⟩
    simp only at h1 h0 h2 h3
    subst h3
    refine ⟨_, ⟨B1, h1, h0, h2 0 (by omega), h2 1 (by omega), rfl⟩, fun k => ?_⟩
    show b_X6_village_52 J (fun B x1 => k (B, x1)) B1 (nI 2) = _
    unfold b_X6_village_52
    rw [if_pos (show (2 : Int32) ≤ nI 2 by decide), h1 5 (by omega)]
end VC
