section AG3
variable {B : oa_I3} {J : oa_J2} {M : oa_I2} {K : oa_J2}
theorem TX_note {W : Nat → oa_P} {t : Nat} {X : oa_I2} (h : t = 0 ∨ ∃ s, t = s + 1 ∧ TX W s X) : TX W t (va_up X 0 (fun j => if t * 6 ≤ j ∧ j < t * 6 + 6 then nI (rwN (agN (W t) (j - t * 6)) 6) else X 0 j)) := by
  intro m hm r hr
  rw [va_up_s]
  by_cases e : m = t
  · rw [e, if_pos (by omega), Nat.add_sub_cancel_left]
  · rw [if_neg (by omega)]
    rcases h with h | ⟨s, h1, h2⟩
    · omega
    · exact h2 m (by omega) r hr
theorem TY_note {W : Nat → oa_P} {t : Nat} {Y : oa_P} (h : t = 0 ∨ ∃ s, t = s + 1 ∧ TY W s Y) : TY W t (fun j => if 42 * t ≤ j ∧ j < 42 * t + 42 then W t (48 + (j - 42 * t)) else Y j) := by
  intro m hm k hk
  dsimp only
  by_cases e : m = t
  · rw [e, if_pos (by omega), Nat.add_sub_cancel_left]
  · rw [if_neg (by omega)]
    rcases h with h | ⟨s, h1, h2⟩
    · omega
    · exact h2 m (by omega) k hk
theorem Rel_again {B' : oa_I3} {Y P : oa_P} {w : Int32} (h : Rel B M) (hB : ∀ a, a ≠ 1 → a ≠ 11 → B' a = B a) : Rel B' (oa_ms (va_up M 8 Y) 360 P w) := by
  refine Rel_step h ⟨rfl, rfl, rfl, rfl, rfl, rfl, rfl, rfl, rfl, rfl, rfl⟩ (fun k _ hk => ?_) (fun a h1 h2 => hB a (by omega) (by omega)) (fun n L _ g => ?_)
  · rw [oa_ms_at, if_pos hk, va_up_n _ _ (by omega)]
  · rw [hB 0 (by omega) (by omega)]
    refine RV_ext (fun k hk => ?_) g
    rw [oa_ms_at, if_pos (by omega), va_up_n _ _ (by omega)]
theorem c_again (h : Rel B M) (x : Int32) : ∃ a B' M', f_X6_again B J x = some (a, B') ∧ f_X7_again M K x = some (a, M') ∧ Rel B' M' := by
  have h0 := h
  obtain ⟨n, L, hR, ⟨cv, hp, h99, tb⟩, hI, hT, hF, hS, hC⟩ := h
  have h6 := cv.1.1
  have hL := hR.1.2.2
  unfold f_X6_again f_X7_again
  simp (disch := (first | omega | assumption | decide)) only [f_within, f_in_0_1, f_in_0_2, f_in_0_3, f_in_0_4, f_in_0_6, f_in_0_7, f_in_0_12, f_in_0_20, f_in_0_99, f_in_1_4, f_in_1_99, oa_ut, oa_bs, oa_lt, oa_ile, oa_inle, oa_ilt, oa_inlt, oa_ieq, oa_ineq, oa_rd_0, oa_rd_1, oa_wr_0, oa_wr_1, oa_rdL_nI, oa_wrL_nI, oa_bi_if0, oa_bi_if1, oa_zc_bi, oa_if_b0, oa_if_b1, nI_1, nI_add, pk_mul, Nat.add_assoc, Int32.add_zero, Int32.sub_zero, Int32.or_zero, Int32.and_neg_one, ite_self, if_true, if_false, oa_10, oa_01, oa_neg4, oa_ifno, oa_l2, oa_l3, oa_l4, oa_l5, oa_l6, oa_l7, oa_l8, oa_l9, oa_l10, oa_l12, oa_l15, oa_l16, oa_l20, oa_l32, oa_l40, oa_l42, oa_l48, oa_l64, oa_l90, oa_l96, oa_l97, oa_l98, oa_l99, oa_l100, oa_l120, oa_l360, oa_l450, oa_l457, oa_l458, oa_l480, oa_l528]
  cases hx : oa_wi x 0 1
  · exact ⟨_, _, _, rfl, rfl, h0⟩
  have hpt := PW_trial (M := M) hp
  generalize hW : (fun i => (wks (M 2) n i (T0 M)).1) = W
  have hWi : ∀ i, (wks (M 2) n i (T0 M)).1 = W i := fun i => by rw [← hW]
  have hPW : ∀ i, PW n L (W i) := fun i => by rw [← hWi]; exact PW_wks hR.1 h6 hpt i
  have hsea : ∀ i j, seaE (W i) (W j) := fun i j => by
    rw [← hWi, ← hWi]
    exact sea_trans (sea_wks h6 i) (sea_symm (sea_wks h6 j))
  have cv0 : CV n (M 2) (gz (M 1)) (W 0) (oa_cpy (B 1) (B 0)) := by rw [← hWi]; exact cv_trial cv
  have e0 : f_X1_note (B 11) (oa_cpy (B 1) (B 0)) 0 = _ := cv_note (m := 0) hL cv0 (hPW 0) (by omega)
  have e1 : f_X7_notes (oa_ms M 360 (T0 M) 0) K (nI 360) 0 = _ := md_notes (M := M) (K := K) (P := T0 M) (w := 0) (t := 0) (by omega)
  have eT : T0 M = W 0 := by rw [← hWi]; rfl
  simp only [if_true, f_copyOf, oa_bs, oa_lt, va_up_s, va_up_n B (oa_cpy (B 1) (B 0)) (show (11 : Nat) ≠ 1 by omega), md_tries0 h99 h6, e0, e1]
  unfold l_X6_again_36 l_X7_again_27
  refine oa_for2 (fun o o' => ∃ a B' M', o = some (a, B') ∧ o' = some (a, M') ∧ Rel B' M') (fun i s t => ∃ B' Y w, s = (B', nI (i + 1)) ∧ t = (oa_ms (va_up M 8 Y) 360 (W i) w, nI (i + 1)) ∧ (∀ a, a ≠ 1 → a ≠ 11 → B' a = B a) ∧ CV n (M 2) (gz (M 1)) (W i) (B' 1) ∧ TX W i (B' 11) ∧ TY W i Y) 99 ?_ ?_ ?_ oa_fu oa_fu (by rw [oa_fu_eq]; omega) (by rw [oa_fu_eq]; omega)
  · refine ⟨_, _, _, rfl, by rw [eT]; rfl, fun a a1 a2 => ?_, ?_, ?_, ?_⟩
    · rw [va_up_n _ _ a2, va_up_n _ _ a1]
    · rw [va_up_n _ _ (by omega), va_up_s]; exact cv0
    · rw [va_up_s]; exact TX_note (Or.inl rfl)
    · rw [← eT, eT]; exact TY_note (t := 0) (Y := M 8) (Or.inl rfl)
  · rintro i hi s t ⟨B', Y, w, rfl, rfl, hB, hcv, hTX, hTY⟩ k l
    obtain ⟨V', f1, f2, f3⟩ := cv_week1 hR.1 hcv (hPW i)
    have eW : (wk (M 2) n (W i)).1 = W (i + 1) := by rw [← hWi, ← hWi]; rfl
    rw [eW] at f2
    have hn' : HN (va_up M 8 Y) 360 n (W i) := ⟨h6, by omega, Or.inr ⟨by omega, by rw [va_up_n _ _ (by omega)]; exact h99⟩⟩
    have g1 := md_week (K := K) (w := w) hn'
    rw [show va_up M 8 Y 2 = M 2 from rfl, eW] at g1
    have g2 := cv_note (m := i + 1) (X := B' 11) hL f2 (hPW (i + 1)) (by omega)
    have g3 := md_notes (M := va_up M 8 Y) (K := K) (P := W (i + 1)) (w := (wk (M 2) n (W i)).2) (t := i + 1) (by omega)
    rw [oa_up2, va_up_s] at g3
    have tx : TX W (i + 1) (va_up (B' 11) 0 (fun j => if (i + 1) * 6 ≤ j ∧ j < (i + 1) * 6 + 6 then nI (rwN (agN (W (i + 1)) (j - (i + 1) * 6)) 6) else B' 11 0 j)) := TX_note (Or.inr ⟨i, rfl, hTX⟩)
    have ty : TY W (i + 1) (fun j => if 42 * (i + 1) ≤ j ∧ j < 42 * (i + 1) + 42 then W (i + 1) (48 + (j - 42 * (i + 1))) else Y j) := TY_note (Or.inr ⟨i, rfl, hTY⟩)
    generalize (fun j => if 42 * (i + 1) ≤ j ∧ j < 42 * (i + 1) + 42 then W (i + 1) (48 + (j - 42 * (i + 1))) else Y j) = Y' at g3 ty
    generalize va_up (B' 11) 0 (fun j => if (i + 1) * 6 ≤ j ∧ j < (i + 1) * 6 + 6 then nI (rwN (agN (W (i + 1)) (j - (i + 1) * 6)) 6) else B' 11 0 j) = X' at g2 tx
    obtain ⟨b, hb1, hb2, hb3⟩ : ∃ b, b ≤ i + 1 ∧ (x = 0 ∧ b = 1 ∨ ¬ x = 0 ∧ b = i + 1) ∧ (∀ k36 Bx, (if x = 0 then b_X6_again_77 J x k36 Bx (nI (i + 1)) (nI (i + 1)) 1 else b_X6_again_77 J x k36 Bx (nI (i + 1)) (nI (i + 1)) (nI (i + 1))) = b_X6_again_77 J x k36 Bx (nI (i + 1)) (nI (i + 1)) (nI b)) := by
      by_cases e : x = 0
      · exact ⟨1, by omega, Or.inl ⟨e, rfl⟩, fun _ _ => by rw [if_pos e]; rfl⟩
      · exact ⟨i + 1, by omega, Or.inr ⟨e, rfl⟩, fun _ _ => by rw [if_neg e]⟩
    have g4 := cl_hasLike (t := i + 1) (b := b) hL tx hb1 (by omega) hPW hsea
    have g5 := fun k2 => md_again_in (M := oa_ms (va_up M 8 Y') 360 (W (i + 1)) (wk (M 2) n (W i)).2) (K := K) (k2 := k2) (x := x) (W := W) (t := i + 1) (b := b) (by rw [oa_ms_k (by omega) (by omega), va_up_s]; exact ty) hb1 (by omega) hb2
    have hB2 : ∀ a, a ≠ 1 → a ≠ 11 → va_up (va_up B' 1 V') 11 X' a = B a := by
      intro a a1 a2
      rw [va_up_n _ _ a2, va_up_n _ _ a1]; exact hB a a1 a2
    simp (disch := (first | omega | assumption | decide)) only [b_X6_again_36, b_X7_again_27, f1, va_up_s, va_up_n, g1, g2, g3, g5, oa_ut, oa_bs, oa_lt, oa_ile, oa_inle, oa_ilt, oa_inlt, oa_ieq, oa_ineq, oa_rd_0, oa_rd_1, oa_wr_0, oa_wr_1, oa_rdL_nI, oa_wrL_nI, oa_bi_if0, oa_bi_if1, oa_zc_bi, oa_if_b0, oa_if_b1, nI_1, nI_add, pk_mul, Nat.add_assoc, Int32.add_zero, Int32.sub_zero, Int32.or_zero, Int32.and_neg_one, ite_self, if_true, if_false, oa_10, oa_01, oa_neg4, oa_ifno, oa_l2, oa_l3, oa_l4, oa_l5, oa_l6, oa_l7, oa_l8, oa_l9, oa_l10, oa_l12, oa_l15, oa_l16, oa_l20, oa_l32, oa_l40, oa_l42, oa_l48, oa_l64, oa_l90, oa_l96, oa_l97, oa_l98, oa_l99, oa_l100, oa_l120, oa_l360, oa_l450, oa_l457, oa_l458, oa_l480, oa_l528]
    rw [hb3]
    simp (disch := (first | omega | assumption | decide)) only [b_X6_again_77, g4, va_up_s, oa_ut, oa_bs, oa_lt, oa_ile, oa_inle, oa_ilt, oa_inlt, oa_ieq, oa_ineq, oa_rd_0, oa_rd_1, oa_wr_0, oa_wr_1, oa_rdL_nI, oa_wrL_nI, oa_bi_if0, oa_bi_if1, oa_zc_bi, oa_if_b0, oa_if_b1, nI_1, nI_add, pk_mul, Nat.add_assoc, Int32.add_zero, Int32.sub_zero, Int32.or_zero, Int32.and_neg_one, ite_self, if_true, if_false, oa_10, oa_01, oa_neg4, oa_ifno, oa_l2, oa_l3, oa_l4, oa_l5, oa_l6, oa_l7, oa_l8, oa_l9, oa_l10, oa_l12, oa_l15, oa_l16, oa_l20, oa_l32, oa_l40, oa_l42, oa_l48, oa_l64, oa_l90, oa_l96, oa_l97, oa_l98, oa_l99, oa_l100, oa_l120, oa_l360, oa_l450, oa_l457, oa_l458, oa_l480, oa_l528]
    cases hl : lk W (i + 1) b
    · left
      refine ⟨_, _, ⟨_, _, _, rfl, rfl, hB2, ?_, ?_, ty⟩, rfl, rfl⟩
      · rw [va_up_n _ _ (by omega), va_up_s]; exact f2
      · rw [va_up_s]; exact tx
    · right
      exact ⟨_, _, _, rfl, rfl, Rel_again h0 hB2⟩
  · rintro s t ⟨B', Y, w, rfl, rfl, hB, hcv, hTX, hTY⟩ k l
    simp (disch := (first | omega | assumption | decide)) only [b_X6_again_36, b_X7_again_27, oa_ut, oa_bs, oa_lt, oa_ile, oa_inle, oa_ilt, oa_inlt, oa_ieq, oa_ineq, oa_rd_0, oa_rd_1, oa_wr_0, oa_wr_1, oa_rdL_nI, oa_wrL_nI, oa_bi_if0, oa_bi_if1, oa_zc_bi, oa_if_b0, oa_if_b1, nI_1, nI_add, pk_mul, Nat.add_assoc, Int32.add_zero, Int32.sub_zero, Int32.or_zero, Int32.and_neg_one, ite_self, if_true, if_false, oa_10, oa_01, oa_neg4, oa_ifno, oa_l2, oa_l3, oa_l4, oa_l5, oa_l6, oa_l7, oa_l8, oa_l9, oa_l10, oa_l12, oa_l15, oa_l16, oa_l20, oa_l32, oa_l40, oa_l42, oa_l48, oa_l64, oa_l90, oa_l96, oa_l97, oa_l98, oa_l99, oa_l100, oa_l120, oa_l360, oa_l450, oa_l457, oa_l458, oa_l480, oa_l528]
    exact ⟨_, _, _, rfl, rfl, Rel_again h0 hB⟩
end AG3
