/-! village -/
theorem TDR_ext {V : oa_I2} {R R' : oa_P} (h : TDR V R) (e : ∀ k, k < 3 → R' k = R k) : TDR V R' := by
  obtain ⟨h1, h2, L, h3, h4, h5⟩ := h
  exact ⟨fun k hk => (h1 k hk).trans (e k hk).symm, by rw [e 0 (by omega)]; exact h2, L, (e 1 (by omega)).trans h3, h4, h5⟩
/-- a told page in force -/
theorem RV_of {n L : Nat} {R P : oa_P} {V : oa_I2} (hX : TDX n 0 V P) (hR : TDR V R) (hV : V 5 0 = nI n) (h99 : P 99 = nI n) (hk : ok1 P n n = true) (hL : 1 ≤ L) : RV n L R P V := by
  have hc := cv_of hX hR hV
  obtain ⟨h1, h2, h3, h4, h5, h6, h7⟩ := hX
  refine ⟨hc, fun r hr p hp => ?_, h99, fun p hp => ⟨?_, fun w w1 w4 => ?_, ?_⟩⟩
  · rcases h6 r hr p hp with c | ⟨c, c2⟩
    · exact ⟨0, c, by omega, fun q => absurd q (by omega), fun _ => by omega⟩
    · refine ⟨1, c, hL, fun _ => ⟨c2, ?_⟩, fun _ => by omega⟩
      by_cases e : p = 6
      · exact Or.inr e
      · refine Or.inl (((af_iff P n r 6).mp (ok1_at hk r c2).2 p (by omega) ?_).2)
        unfold an
        rw [c]
        decide
  · exact (h2 0 p (by omega) (by omega) (Or.inl hp)).2.1 rfl
  · exact (h2 w p (by omega) (by omega) (Or.inl hp)).2.2.1 w1 w4
  · exact (h2 5 p (by omega) (by omega) (Or.inl hp)).2.2.2.1 rfl
theorem RT_0 {T M : oa_I2} (h1 : T 1 0 = 0) (h2 : M 0 0 = 0) : RT T M := ⟨0, by omega, h1, h2, fun k hk => absurd hk (by omega)⟩
theorem c_village {B : oa_I3} {J : oa_J2} {M : oa_I2} {K : oa_J2} (h : Rel B M) : ∃ a B' M', f_X6_village B J = some (a, B') ∧ f_X7_village M K = some (a, M') ∧ Rel B' M' := by
  obtain ⟨n, L, hR, hV, hI, ⟨t, t1, t2, t3, t4⟩, hF, hS, hC⟩ := h
  have hTP : TP t (fun k => (B 5 0 k).toNatClampNeg) (B 5) M := by
    refine ⟨t1, t2, t3, fun k hk => ?_⟩
    obtain ⟨b, b1, b2, b3⟩ := t4 k hk
    show (B 5 0 k).toNatClampNeg < 256 ∧ B 5 0 k = nI ((B 5 0 k).toNatClampNeg) ∧ M 5 k = nI ((B 5 0 k).toNatClampNeg)
    rw [b2, nI_clamp (by omega)]
    exact ⟨b1, rfl, b3⟩
  obtain ⟨T', V', M', c, f1, f2, e1, e2, z⟩ := told (V := B 2) (K := K) hTP hC
  generalize hB7 : va_up (va_up (va_up B 5 (va_up T' 1 (upd (T' 1) 0 0))) 2 V') 6 (va_up (B 6) 0 (upd (B 6 0) 0 (T' 1 1))) = B7
  have b5 : B7 5 = va_up T' 1 (upd (T' 1) 0 0) := by rw [← hB7, va_up_n _ _ (by omega), va_up_n _ _ (by omega), va_up_s]
  have b2 : B7 2 = V' := by rw [← hB7, va_up_n _ _ (by omega), va_up_s]
  have b6 : B7 6 = va_up (B 6) 0 (upd (B 6 0) 0 (T' 1 1)) := by rw [← hB7, va_up_s]
  have bo : ∀ a, a ≠ 2 → a ≠ 5 → a ≠ 6 → B7 a = B a := fun a a2 a5 a6 => by rw [← hB7, va_up_n _ _ a6, va_up_n _ _ a2, va_up_n _ _ a5]
  have b600 : B7 6 0 0 = T' 1 1 := by rw [b6, va_up_s, upd_s]
  have b601 : B7 6 0 1 = B 6 0 1 := by rw [b6, va_up_s, upd_n _ _ (by omega)]
  have b61 : B7 6 1 = B 6 1 := by rw [b6, va_up_n _ _ (by omega)]
  have b510 : B7 5 1 0 = 0 := by rw [b5, rd1]
  have b512 : B7 5 1 2 = T' 1 2 := by rw [b5, rd1n _ _ (by omega)]
  have b513 : B7 5 1 3 = T' 1 3 := by rw [b5, rd1n _ _ (by omega)]
  have ecl : f_X6_village B J = if B7 6 0 0 = 0 then (f_X5_copyOf (B7 0) (B7 2)).bind fun V10 => l_X6_village_52 J oa_fu (va_up B7 0 V10) 0 else some ((-10) - B7 5 1 2, B7) := by
    unfold f_X6_village
    rw [e1]
    simp only [oa_bs, oa_ut, oa_lt]
    rw [← hB7]
    rw [va_up_n (va_up B 5 (va_up T' 1 (upd (T' 1) 0 0))) V' (show 6 ≠ 2 by omega), va_up_n B (va_up T' 1 (upd (T' 1) 0 0)) (show 6 ≠ 5 by omega), va_up_n (va_up B 5 (va_up T' 1 (upd (T' 1) 0 0))) V' (show 5 ≠ 2 by omega), va_up_s B, rd1n _ _ (show 1 ≠ 0 by omega)]
  rw [ecl, b600, e2]
  -- the model's page
  have hmm : ∀ a, a ≠ 0 → a ≠ 3 → a ≠ 4 → M' a = M a := f2.1
  have hm0 : ∀ j, (j < 2 ∨ 8 < j) → M' 0 j = M 0 j := f2.2
  generalize hM3 : va_up M' 0 (upd (upd (M' 0) 0 0) 1 (M' 0 2)) = M3
  have m0 : M3 0 0 = 0 := by rw [← hM3, va_up_s, upd_n _ _ (by omega), upd_s]
  have m1 : M3 0 1 = M' 0 2 := by rw [← hM3, va_up_s, upd_s]
  have m10 : M3 0 10 = M 0 10 := by rw [← hM3, va_up_s, upd_n _ _ (by omega), upd_n _ _ (by omega)]; exact hm0 10 (by omega)
  have mo : ∀ a, a ≠ 0 → M3 a = M' a := fun a a0 => by rw [← hM3, va_up_n _ _ a0]
  have mm : ∀ a, a ≠ 0 → a ≠ 3 → a ≠ 4 → M3 a = M a := fun a a0 a3 a4 => (mo a a0).trans (hmm a a0 a3 a4)
  unfold vE
  rw [hM3]
  rcases z with ⟨z1, z2, z3, z4, m, z5, z6, z7, z8⟩ | ⟨t', ⟨c', s, c0, c7, z1, z2, z3, z4⟩, _⟩
  · rw [if_pos z1, f_copyOf, oa_bs, z2, if_pos (show (0 : Int32) ≤ 0 by decide)]
    obtain ⟨BE, g1, g2, g3, g4, g5⟩ := cl_vend (B := va_up B7 0 (oa_cpy (B7 0) (B7 2))) (J := J)
    obtain ⟨ME, k1, k2, k3, k4, k5, k6⟩ := md_vend (M := M3) (K := K) (c := c)
    have gb : ∀ a, a ≠ 0 → a ≠ 2 → a ≠ 5 → a ≠ 6 → BE a = B a := fun a a0 a2 a5 a6 => by rw [g1 a a6, va_up_n _ _ a0, bo a a2 a5 a6]
    have gm : ∀ a, a ≠ 0 → a ≠ 1 → a ≠ 2 → a ≠ 3 → a ≠ 4 → a ≠ 11 → ME a = M a := fun a a0 a1 a2 a3 a4 a11 => (k1 a a1 a2 a11).trans (mm a a0 a3 a4)
    have hTR : TDR V' (ME 2) := TDR_ext z4 (fun k hk => by rw [k3 k hk, mo 3 (by omega)])
    obtain ⟨L', l1, l2, l3⟩ := hTR.2.2
    refine ⟨c, BE, ME, ?_, k6, m, L', ⟨⟨l1, l2, l3⟩, hTR.2.1⟩, ?_, fun k hk => ?_, RT_0 ?_ ?_, ⟨?_, ?_⟩, fun k hk => ?_, ?_⟩
    · rw [g5, va_up_n _ _ (by omega), b513, z3]
    · rw [g1 0 (by omega), va_up_s, b2]
      refine RV_ext (P := M' 4) (fun k hk => ?_) (RV_cpy (RV_of z7 hTR z5 z6 z8 l2))
      rw [k2 k hk, mo 4 (by omega)]
    · have e11 : ME 11 k = 0 := by
        rcases k with _ | _ | k
        · exact k4
        · exact k5
        · omega
      have e61 : BE 6 1 k = 0 := by
        rcases k with _ | _ | k
        · exact g3
        · exact g4
        · omega
      rw [e11, e61]
      exact ⟨rfl, Or.inl rfl⟩
    · rw [g1 5 (by omega), va_up_n _ _ (by omega)]; exact b510
    · rw [k1 0 (by omega) (by omega) (by omega)]; exact m0
    · rw [g2, va_up_n _ _ (by omega), b600, k1 0 (by omega) (by omega) (by omega), m1, z1, z2]
    · rw [g2, va_up_n _ _ (by omega), b601, k1 0 (by omega) (by omega) (by omega), m10]; exact hF.2
    · rw [gb (7 + k) (by omega) (by omega) (by omega) (by omega)]
      unfold RS
      rw [gm 12 (by omega) (by omega) (by omega) (by omega) (by omega) (by omega), gm 13 (by omega) (by omega) (by omega) (by omega) (by omega) (by omega), gm 14 (by omega) (by omega) (by omega) (by omega) (by omega) (by omega)]
      exact hS k hk
    · unfold RC
      rw [gm 6 (by omega) (by omega) (by omega) (by omega) (by omega) (by omega), gm 7 (by omega) (by omega) (by omega) (by omega) (by omega) (by omega)]
      exact hC
  · have hz : ¬ nI c' = 0 := nI_neq (b := 0) (by omega) (by omega) (by omega)
    rw [z1, if_neg hz, z2, if_neg (show ¬ nI c' ≤ 0 from nI_ge (b := c') (a := 0) c0 (by omega)), b512, z3, z4]
    refine ⟨_, B7, M3, rfl, rfl, n, L, ?_, ?_, fun k hk => ?_, RT_0 b510 m0, ⟨?_, ?_⟩, fun k hk => ?_, ?_⟩
    · rw [mm 2 (by omega) (by omega) (by omega)]; exact hR
    · rw [mm 2 (by omega) (by omega) (by omega), mm 1 (by omega) (by omega) (by omega), bo 0 (by omega) (by omega) (by omega)]; exact hV
    · rw [mm 11 (by omega) (by omega) (by omega), mm 2 (by omega) (by omega) (by omega), b61, bo (3 + k) (by omega) (by omega) (by omega)]
      have hpg : oa_pg M3 (120 * (k + 1)) = oa_pg M (120 * (k + 1)) := by
        unfold oa_pg
        rw [mm 1 (by omega) (by omega) (by omega)]
      rw [hpg]
      exact hI k hk
    · rw [b600, m1, z1, z2]
    · rw [b601, m10]; exact hF.2
    · rw [bo (7 + k) (by omega) (by omega) (by omega)]
      unfold RS
      rw [mm 12 (by omega) (by omega) (by omega), mm 13 (by omega) (by omega) (by omega), mm 14 (by omega) (by omega) (by omega)]
      exact hS k hk
    · unfold RC
      rw [mm 6 (by omega) (by omega) (by omega), mm 7 (by omega) (by omega) (by omega)]
      exact hC
