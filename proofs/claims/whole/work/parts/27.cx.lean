/-! hurts, ends, weeks of the class -/
theorem oa_forK {α β : Type} {F : (α → Option β) → α → Option β} (Q : Option β → Prop) (Rl : Nat → α → Prop) (N : Nat) {s0 : α} (h0 : Rl 0 s0) (hs : ∀ i, i < N → ∀ s, Rl i s → ∀ k, (∃ s', Rl (i + 1) s' ∧ F k s = k s') ∨ Q (F k s)) (he : ∀ s, Rl N s → ∀ k, Q (F k s)) : ∀ fuel, N < fuel → Q (oa_fix F fuel s0) := by
  have key : ∀ j i fuel s, i + j = N → j < fuel → Rl i s → Q (oa_fix F fuel s) := by
    intro j
    induction j with
    | zero =>
      intro i fuel s h1 h2 h3
      obtain ⟨f, rfl⟩ : ∃ f, fuel = f + 1 := ⟨fuel - 1, by omega⟩
      have : i = N := by omega
      subst this
      exact he s h3 _
    | succ j ih =>
      intro i fuel s h1 h2 h3
      obtain ⟨f, rfl⟩ : ∃ f, fuel = f + 1 := ⟨fuel - 1, by omega⟩
      show Q (F (oa_fix F f) s)
      rcases hs i (by omega) s h3 (oa_fix F f) with ⟨s', h4, h5⟩ | h4
      · rw [h5]; exact ih (i + 1) f s' (by omega) (by omega) h4
      · exact h4
  intro fuel h
  exact key N 0 fuel s0 (by omega) h h0
section CXs
variable {n : Nat} {R G P P' : oa_P} {V : oa_I2}
theorem cv_older {r p a : Nat} (h : CV n R G P V) (hr : r < 6) (hp : p < 6) (ha : an P r p = true) (he : P (48 + (7 * r + p)) = nI a) (hb : a < 100) : CV n R G (upd P (48 + (7 * r + p)) (P (48 + (7 * r + p)) + 1)) (va_up V 3 (upd (V 3) (r * 6 + p) (V 3 (r * 6 + p) + 1))) := by
  obtain ⟨h1, ⟨h2, h3⟩, h4, h5⟩ := h
  have hs : ∀ r', r' < 6 → ∀ p', p' < 7 → an (upd P (48 + (7 * r + p)) (P (48 + (7 * r + p)) + 1)) r' p' = an P r' p' := by
    intro r' hr' p' hp'
    rw [an_upd (by omega) hp']
    by_cases e : r' = r ∧ p' = p
    · rw [if_pos e, e.1, e.2, ha, he, nI_1]
      exact decide_eq_true (nI_lt (a := 0) (by omega) (by omega))
    · rw [if_neg e]
  refine ⟨ct_TR h1 (TR_upd (TR_refl P) (by omega) (by omega)), ⟨?_, ?_⟩, ?_, ?_⟩
  · intro r' hr'
    show V 2 r' = _
    rw [h2 r' hr']
    exact oa_mk_cong fun k hk => (hs r' hr' k hk).symm
  · intro r' hr' p' hp' hq
    rw [hs r' hr' p' (by omega)] at hq
    show _ = upd (V 3) (r * 6 + p) (V 3 (r * 6 + p) + 1) (r' * 6 + p') + 1
    by_cases e : r' = r ∧ p' = p
    · obtain ⟨rfl, rfl⟩ := e
      rw [upd_s, upd_s, h3 r' hr' p' hp' ha]
    · rw [upd_n _ _ (by omega), upd_n _ _ (by omega)]
      exact h3 r' hr' p' hp' hq
  · intro k hk
    rw [upd_n _ _ (by omega)]; exact h4 k hk
  · rw [upd_n _ _ (by omega), upd_n _ _ (by omega), upd_n _ _ (by omega)]; exact h5
theorem cv_hurt_in {B r : Nat} {k2 : oa_I2 → Int32 → Option oa_I2} (hB : B ≤ 50) (h : CV n R G P V) (hw : PWh n B r 0 P) (hr : r < n) : ∃ V', l_X5_hurtAll_12 (nI r) k2 oa_fu V 0 = k2 V' (nI (r + 1)) ∧ CV n R G (it (hu1 r) n P) V' ∧ V' 5 = V 5 := by
  have h6 := h.1.1
  unfold l_X5_hurtAll_12
  refine oa_forR (fun o => ∃ V', o = k2 V' (nI (r + 1)) ∧ CV n R G (it (hu1 r) n P) V' ∧ V' 5 = V 5) (fun i s => ∃ V', s = (V', nI i) ∧ CV n R G (it (hu1 r) i P) V' ∧ V' 5 = V 5) n ⟨V, rfl, h, rfl⟩ ?_ ?_ _ (by rw [oa_fu_eq]; omega)
  · rintro i hi s ⟨W, rfl, hW, hW5⟩
    left
    have hq := PWh_in h6 hr hw i (by omega)
    rw [it_succ]
    generalize it (hu1 r) i P = Q at hW hq
    obtain ⟨a, ha1, ha2, _, _⟩ := hq r (by omega) i (by omega)
    unfold hu1
    cases ha : an Q r i
    · refine ⟨(W, nI (i + 1)), ⟨W, rfl, ?_, hW5⟩, fun k => ?_⟩
      · rw [if_neg (by decide)]; exact hW
      · simp (disch := (first | omega | assumption | decide)) only [b_X5_hurtAll_12, hW.1.2.1, cv_isAngry hW, ha, oa_ut, oa_bs, oa_lt, oa_ile, oa_inle, oa_ilt, oa_inlt, oa_ieq, oa_ineq, oa_rd_nI, oa_wr_nI, oa_rd_0, oa_rd_1, oa_wr_0, oa_wr_1, oa_rdL_nI, oa_wrL_nI, oa_bi_if0, oa_bi_if1, oa_zc_bi, oa_if_b0, oa_if_b1, nI_1, nI_add, pk_mul, Nat.add_assoc, Int32.add_zero, Int32.sub_zero, Int32.or_zero, Int32.and_neg_one, va_up_s, va_up_n, upd_s, oa_up2, ite_self, if_true, if_false, oa_10, oa_01, oa_neg4, oa_ifno, oa_l2, oa_l3, oa_l4, oa_l5, oa_l6, oa_l7, oa_l8, oa_l9, oa_l10, oa_l12, oa_l15, oa_l16, oa_l20, oa_l32, oa_l40, oa_l42, oa_l48, oa_l64, oa_l90, oa_l96, oa_l97, oa_l98, oa_l99, oa_l100, oa_l120, oa_l360, oa_l450, oa_l457, oa_l458, oa_l480, oa_l528]
        rfl
    · have e1 := cv_loss (p := i) (d := Q (8 * r + 3)) hW (by omega)
      have e2 := cv_older (r := r) (p := i) (a := a) e1 (by omega) (by omega) (by rw [an_hi (by omega) (by omega) (by omega)]; exact ha) (by rw [upd_n _ _ (by omega)]; exact ha1) (by omega)
      rw [upd_n _ _ (show 48 + (7 * r + i) ≠ 90 + i by omega)] at e2
      generalize hU : va_up (va_up W 4 (upd (W 4) i (W 4 i - Q (8 * r + 3)))) 3 (upd (va_up W 4 (upd (W 4) i (W 4 i - Q (8 * r + 3))) 3) (r * 6 + i) (va_up W 4 (upd (W 4) i (W 4 i - Q (8 * r + 3))) 3 (r * 6 + i) + 1)) = U at e2
      refine ⟨(U, nI (i + 1)), ⟨U, rfl, ?_, ?_⟩, fun k => ?_⟩
      · rw [if_pos rfl]; exact e2
      · rw [← hU]; exact hW5
      · rw [← hU]
        simp (disch := (first | omega | assumption | decide)) only [b_X5_hurtAll_12, hW.1.2.1, cv_isAngry hW, ha, oa_rd_nI, oa_wr_nI, ct_w hW.1, oa_ut, oa_bs, oa_lt, oa_ile, oa_inle, oa_ilt, oa_inlt, oa_ieq, oa_ineq, oa_rd_0, oa_rd_1, oa_wr_0, oa_wr_1, oa_rdL_nI, oa_wrL_nI, oa_bi_if0, oa_bi_if1, oa_zc_bi, oa_if_b0, oa_if_b1, nI_1, nI_add, pk_mul, Nat.add_assoc, Int32.add_zero, Int32.sub_zero, Int32.or_zero, Int32.and_neg_one, ite_self, if_true, if_false, oa_10, oa_01, oa_neg4, oa_ifno, oa_l2, oa_l3, oa_l4, oa_l5, oa_l6, oa_l7, oa_l8, oa_l9, oa_l10, oa_l12, oa_l15, oa_l16, oa_l20, oa_l32, oa_l40, oa_l42, oa_l48, oa_l64, oa_l90, oa_l96, oa_l97, oa_l98, oa_l99, oa_l100, oa_l120, oa_l360, oa_l450, oa_l457, oa_l458, oa_l480, oa_l528]
  · rintro s ⟨W, rfl, hW, hW5⟩
    refine ⟨k2 W (nI (r + 1)), ⟨W, rfl, hW, hW5⟩, fun k => ?_⟩
    simp (disch := (first | omega | assumption | decide)) only [b_X5_hurtAll_12, hW.1.2.1, oa_ut, oa_bs, oa_lt, oa_ile, oa_inle, oa_ilt, oa_inlt, oa_ieq, oa_ineq, oa_rd_nI, oa_wr_nI, oa_rd_0, oa_rd_1, oa_wr_0, oa_wr_1, oa_rdL_nI, oa_wrL_nI, oa_bi_if0, oa_bi_if1, oa_zc_bi, oa_if_b0, oa_if_b1, nI_1, nI_add, pk_mul, Nat.add_assoc, Int32.add_zero, Int32.sub_zero, Int32.or_zero, Int32.and_neg_one, va_up_s, va_up_n, upd_s, oa_up2, ite_self, if_true, if_false, oa_10, oa_01, oa_neg4, oa_ifno, oa_l2, oa_l3, oa_l4, oa_l5, oa_l6, oa_l7, oa_l8, oa_l9, oa_l10, oa_l12, oa_l15, oa_l16, oa_l20, oa_l32, oa_l40, oa_l42, oa_l48, oa_l64, oa_l90, oa_l96, oa_l97, oa_l98, oa_l99, oa_l100, oa_l120, oa_l360, oa_l450, oa_l457, oa_l458, oa_l480, oa_l528]
theorem cv_hurtAll {B : Nat} (hB : B ≤ 50) (h : CV n R G P V) (hw : PW n B P) : ∃ V', f_X5_hurtAll V = some V' ∧ CV n R G (hu n P) V' ∧ V' 5 = V 5 := by
  have h6 := h.1.1
  unfold f_X5_hurtAll l_X5_hurtAll_2
  refine oa_forK (fun o => ∃ V', o = some V' ∧ CV n R G (hu n P) V' ∧ V' 5 = V 5) (fun i s => ∃ V', s = (V', nI i) ∧ CV n R G (it (fun r => it (hu1 r) n) i P) V' ∧ V' 5 = V 5) n ⟨V, rfl, h, rfl⟩ ?_ ?_ _ (by rw [oa_fu_eq]; omega)
  · rintro i hi s ⟨W, rfl, hW, hW5⟩ k
    left
    have hq := PWh_out h6 hw i (by omega)
    obtain ⟨W0, f1, f2, f3⟩ := cv_hurt_in (k2 := fun V x => k (V, x)) hB hW hq hi
    refine ⟨(W0, nI (i + 1)), ⟨W0, rfl, by rw [it_succ]; exact f2, f3.trans hW5⟩, ?_⟩
    simp (disch := (first | omega | assumption | decide)) only [b_X5_hurtAll_2, hW.1.2.1, f1, oa_ut, oa_bs, oa_lt, oa_ile, oa_inle, oa_ilt, oa_inlt, oa_ieq, oa_ineq, oa_rd_nI, oa_wr_nI, oa_rd_0, oa_rd_1, oa_wr_0, oa_wr_1, oa_rdL_nI, oa_wrL_nI, oa_bi_if0, oa_bi_if1, oa_zc_bi, oa_if_b0, oa_if_b1, nI_1, nI_add, pk_mul, Nat.add_assoc, Int32.add_zero, Int32.sub_zero, Int32.or_zero, Int32.and_neg_one, va_up_s, va_up_n, upd_s, oa_up2, ite_self, if_true, if_false, oa_10, oa_01, oa_neg4, oa_ifno, oa_l2, oa_l3, oa_l4, oa_l5, oa_l6, oa_l7, oa_l8, oa_l9, oa_l10, oa_l12, oa_l15, oa_l16, oa_l20, oa_l32, oa_l40, oa_l42, oa_l48, oa_l64, oa_l90, oa_l96, oa_l97, oa_l98, oa_l99, oa_l100, oa_l120, oa_l360, oa_l450, oa_l457, oa_l458, oa_l480, oa_l528]
  · rintro s ⟨W, rfl, hW, hW5⟩ k
    refine ⟨W, ?_, hW, hW5⟩
    simp (disch := (first | omega | assumption | decide)) only [b_X5_hurtAll_2, hW.1.2.1, oa_ut, oa_bs, oa_lt, oa_ile, oa_inle, oa_ilt, oa_inlt, oa_ieq, oa_ineq, oa_rd_nI, oa_wr_nI, oa_rd_0, oa_rd_1, oa_wr_0, oa_wr_1, oa_rdL_nI, oa_wrL_nI, oa_bi_if0, oa_bi_if1, oa_zc_bi, oa_if_b0, oa_if_b1, nI_1, nI_add, pk_mul, Nat.add_assoc, Int32.add_zero, Int32.sub_zero, Int32.or_zero, Int32.and_neg_one, va_up_s, va_up_n, upd_s, oa_up2, ite_self, if_true, if_false, oa_10, oa_01, oa_neg4, oa_ifno, oa_l2, oa_l3, oa_l4, oa_l5, oa_l6, oa_l7, oa_l8, oa_l9, oa_l10, oa_l12, oa_l15, oa_l16, oa_l20, oa_l32, oa_l40, oa_l42, oa_l48, oa_l64, oa_l90, oa_l96, oa_l97, oa_l98, oa_l99, oa_l100, oa_l120, oa_l360, oa_l450, oa_l457, oa_l458, oa_l480, oa_l528]
theorem cv_ageOf {r p a : Nat} (h : CV n R G P V) (hr : r < 6) (hp : p < 6) (ha : an P r p = true) (he : P (48 + (7 * r + p)) = nI (a + 1)) : f_X5_ageOf V (nI r) (nI p) = some (nI a) := by
  have h3 := h.2.1.2 r hr p hp ha
  have : V 3 (r * 6 + p) = nI a := by
    rw [he, nI_succ] at h3
    exact ((Int32.add_left_inj 1).mp h3).symm
  unfold f_X5_ageOf
  simp (disch := (first | omega | assumption | decide)) only [this, oa_ut, oa_bs, oa_lt, oa_ile, oa_inle, oa_ilt, oa_inlt, oa_ieq, oa_ineq, oa_rd_nI, oa_wr_nI, oa_rd_0, oa_rd_1, oa_wr_0, oa_wr_1, oa_rdL_nI, oa_wrL_nI, oa_bi_if0, oa_bi_if1, oa_zc_bi, oa_if_b0, oa_if_b1, nI_1, nI_add, pk_mul, Nat.add_assoc, Int32.add_zero, Int32.sub_zero, Int32.or_zero, Int32.and_neg_one, va_up_s, va_up_n, upd_s, oa_up2, ite_self, if_true, if_false, oa_10, oa_01, oa_neg4, oa_ifno, oa_l2, oa_l3, oa_l4, oa_l5, oa_l6, oa_l7, oa_l8, oa_l9, oa_l10, oa_l12, oa_l15, oa_l16, oa_l20, oa_l32, oa_l40, oa_l42, oa_l48, oa_l64, oa_l90, oa_l96, oa_l97, oa_l98, oa_l99, oa_l100, oa_l120, oa_l360, oa_l450, oa_l457, oa_l458, oa_l480, oa_l528]
theorem cv_endOne {L r p a : Nat} (h : CV n R G P V) (hR : R 1 = nI L) (hL : L ≤ 9) (hr : r < n) (hp : p < n) (ha : an P r p = true) (he : P (48 + (7 * r + p)) = nI a) (hb : a < 100) : ∃ V', f_X5_endOne V (nI r) (nI p) = some V' ∧ CV n R G (en1 R r p P) V' ∧ V' 5 = V 5 := by
  have h6 := h.1.1
  have hR1 : V 0 1 = nI L := (h.1.2.2.1 1 (by omega)).trans hR
  rcases a with _ | a
  · unfold an at ha
    rw [he] at ha
    exact absurd ha (by decide)
  have hage := cv_ageOf h (by omega) (by omega) ha he
  unfold f_X5_endOne en1
  rw [he, hR, nI_pred, if_neg (nI_pos (by omega)), hage]
  by_cases l : L ≤ a
  · rw [if_pos (nI_le l (by omega))]
    obtain ⟨V1, e1, e2, e3, _⟩ := cv_stop (r := r) (p := p) h (by omega) (by omega)
    refine ⟨V1, ?_, e2, e3⟩
    have hn : ¬ 0 < nI L - nI a := by
      intro c
      have := Int32.lt_iff_toInt_lt.mp c
      rw [pk_sub_toInt (by omega) (by omega)] at this
      have e0 : (0 : Int32).toInt = 0 := by decide
      omega
    simp (disch := (first | omega | assumption | decide)) only [hR1, ct_w h.1, if_neg hn, e1, oa_ut, oa_bs, oa_lt, oa_ile, oa_inle, oa_ilt, oa_inlt, oa_ieq, oa_ineq, oa_rd_nI, oa_wr_nI, oa_rd_0, oa_rd_1, oa_wr_0, oa_wr_1, oa_rdL_nI, oa_wrL_nI, oa_bi_if0, oa_bi_if1, oa_zc_bi, oa_if_b0, oa_if_b1, nI_1, nI_add, pk_mul, Nat.add_assoc, Int32.add_zero, Int32.sub_zero, Int32.or_zero, Int32.and_neg_one, va_up_s, va_up_n, upd_s, oa_up2, ite_self, if_true, if_false, oa_10, oa_01, oa_neg4, oa_ifno, oa_l2, oa_l3, oa_l4, oa_l5, oa_l6, oa_l7, oa_l8, oa_l9, oa_l10, oa_l12, oa_l15, oa_l16, oa_l20, oa_l32, oa_l40, oa_l42, oa_l48, oa_l64, oa_l90, oa_l96, oa_l97, oa_l98, oa_l99, oa_l100, oa_l120, oa_l360, oa_l450, oa_l457, oa_l458, oa_l480, oa_l528]
  · rw [if_neg (nI_ge (by omega) (by omega))]
    have hn : 0 < nI L - nI a := by
      rw [pk_sub (by omega)]
      exact nI_lt (a := 0) (by omega) (by omega)
    simp (disch := (first | omega | assumption | decide)) only [hR1, oa_rd_1, ct_w h.1, if_pos hn, oa_ut, oa_bs, oa_lt, oa_ile, oa_inle, oa_ilt, oa_inlt, oa_ieq, oa_ineq, oa_rd_0, oa_rd_1, oa_wr_0, oa_wr_1, oa_rdL_nI, oa_wrL_nI, oa_bi_if0, oa_bi_if1, oa_zc_bi, oa_if_b0, oa_if_b1, nI_1, nI_add, pk_mul, Nat.add_assoc, Int32.add_zero, Int32.sub_zero, Int32.or_zero, Int32.and_neg_one, ite_self, if_true, if_false, oa_10, oa_01, oa_neg4, oa_ifno, oa_l2, oa_l3, oa_l4, oa_l5, oa_l6, oa_l7, oa_l8, oa_l9, oa_l10, oa_l12, oa_l15, oa_l16, oa_l20, oa_l32, oa_l40, oa_l42, oa_l48, oa_l64, oa_l90, oa_l96, oa_l97, oa_l98, oa_l99, oa_l100, oa_l120, oa_l360, oa_l450, oa_l457, oa_l458, oa_l480, oa_l528]
    by_cases d : nI a < P (8 * r + 5)
    · refine ⟨V, ?_, ?_, rfl⟩
      · rw [if_pos d]
      · rw [if_neg (fun c => Int32.not_le.mpr d c.1)]; exact h
    · rw [if_neg d]
      by_cases c : P (8 * r + 3) * (nI L - nI a) ≤ P (8 * r + 4)
      · refine ⟨V, ?_, ?_, rfl⟩
        · rw [if_pos c]
        · rw [if_neg (fun e => Int32.not_le.mpr e.2 c)]; exact h
      · rw [if_neg c, if_pos ⟨Int32.not_lt.mp d, Int32.not_le.mp c⟩]
        have g1 := cv_loss (p := p) (d := P (8 * r + 4)) h (by omega)
        have g2 := cv_gain (p := r) (d := P (8 * r + 4)) g1 (by omega)
        obtain ⟨V1, e1, e2, e3, _⟩ := cv_stop (r := r) (p := p) g2 (by omega) (by omega)
        refine ⟨V1, ?_, ?_, e3⟩
        · simp (disch := (first | omega | assumption | decide)) only [oa_rd_nI, oa_wr_nI, e1, oa_ut, oa_bs, oa_lt, oa_ile, oa_inle, oa_ilt, oa_inlt, oa_ieq, oa_ineq, oa_rd_0, oa_rd_1, oa_wr_0, oa_wr_1, oa_rdL_nI, oa_wrL_nI, oa_bi_if0, oa_bi_if1, oa_zc_bi, oa_if_b0, oa_if_b1, nI_1, nI_add, pk_mul, Nat.add_assoc, Int32.add_zero, Int32.sub_zero, Int32.or_zero, Int32.and_neg_one, ite_self, if_true, if_false, oa_10, oa_01, oa_neg4, oa_ifno, oa_l2, oa_l3, oa_l4, oa_l5, oa_l6, oa_l7, oa_l8, oa_l9, oa_l10, oa_l12, oa_l15, oa_l16, oa_l20, oa_l32, oa_l40, oa_l42, oa_l48, oa_l64, oa_l90, oa_l96, oa_l97, oa_l98, oa_l99, oa_l100, oa_l120, oa_l360, oa_l450, oa_l457, oa_l458, oa_l480, oa_l528]
        · have : pay P r p = upd (upd (upd P (90 + p) (P (90 + p) - P (8 * r + 4))) (90 + r) (upd P (90 + p) (P (90 + p) - P (8 * r + 4)) (90 + r) + P (8 * r + 4))) (48 + (7 * r + p)) 0 := by
            funext k
            unfold pay
            simp only [upd]
            by_cases k1 : k = 48 + (7 * r + p)
            · simp [k1, show ¬ 48 + (7 * r + p) = 90 + r by omega, show ¬ 48 + (7 * r + p) = 90 + p by omega]
            · by_cases k2 : k = 90 + r
              · simp [k2, show ¬ 90 + r = 48 + (7 * r + p) by omega, show ¬ 90 + p = 48 + (7 * r + p) by omega]
              · by_cases k3 : k = 90 + p
                · simp [k3, show ¬ 90 + p = 48 + (7 * r + p) by omega, show ¬ 90 + r = 48 + (7 * r + p) by omega]
                · simp [k1, k2, k3]
          rw [this]
          exact e2
theorem cv_ends_in {L r : Nat} {k2 : oa_I2 → Int32 → Option oa_I2} (hR : R 1 = nI L) (hL : L ≤ 9) (h : CV n R G P V) (hw : PWe n L r 0 P) (hr : r < n) : ∃ V', l_X5_endSome_12 (nI r) k2 oa_fu V 0 = k2 V' (nI (r + 1)) ∧ CV n R G (it (en1 R r) n P) V' ∧ V' 5 = V 5 := by
  have h6 := h.1.1
  unfold l_X5_endSome_12
  refine oa_forR (fun o => ∃ V', o = k2 V' (nI (r + 1)) ∧ CV n R G (it (en1 R r) n P) V' ∧ V' 5 = V 5) (fun i s => ∃ V', s = (V', nI i) ∧ CV n R G (it (en1 R r) i P) V' ∧ V' 5 = V 5) n ⟨V, rfl, h, rfl⟩ ?_ ?_ _ (by rw [oa_fu_eq]; omega)
  · rintro i hi s ⟨W, rfl, hW, hW5⟩
    left
    have hq := PWe_in h6 hr hR hL hw i (by omega)
    rw [it_succ]
    generalize it (en1 R r) i P = Q at hW hq
    obtain ⟨a, ha1, ha2, _, _⟩ := hq r (by omega) i (by omega)
    cases ha : an Q r i
    · refine ⟨(W, nI (i + 1)), ⟨W, rfl, ?_, hW5⟩, fun k => ?_⟩
      · unfold en1
        have : a = 0 := by
          rcases a with _ | a
          · rfl
          · unfold an at ha
            have hpos : (0 : Int32) < nI (a + 1) := nI_lt (a := 0) (by omega) (by omega)
            rw [ha1, decide_eq_true hpos] at ha
            cases ha
        subst this
        rw [ha1, if_pos (by decide)]; exact hW
      · simp (disch := (first | omega | assumption | decide)) only [b_X5_endSome_12, hW.1.2.1, cv_isAngry hW, ha, oa_ut, oa_bs, oa_lt, oa_ile, oa_inle, oa_ilt, oa_inlt, oa_ieq, oa_ineq, oa_rd_nI, oa_wr_nI, oa_rd_0, oa_rd_1, oa_wr_0, oa_wr_1, oa_rdL_nI, oa_wrL_nI, oa_bi_if0, oa_bi_if1, oa_zc_bi, oa_if_b0, oa_if_b1, nI_1, nI_add, pk_mul, Nat.add_assoc, Int32.add_zero, Int32.sub_zero, Int32.or_zero, Int32.and_neg_one, va_up_s, va_up_n, upd_s, oa_up2, ite_self, if_true, if_false, oa_10, oa_01, oa_neg4, oa_ifno, oa_l2, oa_l3, oa_l4, oa_l5, oa_l6, oa_l7, oa_l8, oa_l9, oa_l10, oa_l12, oa_l15, oa_l16, oa_l20, oa_l32, oa_l40, oa_l42, oa_l48, oa_l64, oa_l90, oa_l96, oa_l97, oa_l98, oa_l99, oa_l100, oa_l120, oa_l360, oa_l450, oa_l457, oa_l458, oa_l480, oa_l528]
        rfl
    · obtain ⟨U, e1, e2, e3⟩ := cv_endOne hW hR hL hr hi ha ha1 (by omega)
      refine ⟨(U, nI (i + 1)), ⟨U, rfl, e2, e3.trans hW5⟩, fun k => ?_⟩
      simp (disch := (first | omega | assumption | decide)) only [b_X5_endSome_12, hW.1.2.1, cv_isAngry hW, ha, e1, oa_ut, oa_bs, oa_lt, oa_ile, oa_inle, oa_ilt, oa_inlt, oa_ieq, oa_ineq, oa_rd_nI, oa_wr_nI, oa_rd_0, oa_rd_1, oa_wr_0, oa_wr_1, oa_rdL_nI, oa_wrL_nI, oa_bi_if0, oa_bi_if1, oa_zc_bi, oa_if_b0, oa_if_b1, nI_1, nI_add, pk_mul, Nat.add_assoc, Int32.add_zero, Int32.sub_zero, Int32.or_zero, Int32.and_neg_one, va_up_s, va_up_n, upd_s, oa_up2, ite_self, if_true, if_false, oa_10, oa_01, oa_neg4, oa_ifno, oa_l2, oa_l3, oa_l4, oa_l5, oa_l6, oa_l7, oa_l8, oa_l9, oa_l10, oa_l12, oa_l15, oa_l16, oa_l20, oa_l32, oa_l40, oa_l42, oa_l48, oa_l64, oa_l90, oa_l96, oa_l97, oa_l98, oa_l99, oa_l100, oa_l120, oa_l360, oa_l450, oa_l457, oa_l458, oa_l480, oa_l528]
  · rintro s ⟨W, rfl, hW, hW5⟩
    refine ⟨k2 W (nI (r + 1)), ⟨W, rfl, hW, hW5⟩, fun k => ?_⟩
    simp (disch := (first | omega | assumption | decide)) only [b_X5_endSome_12, hW.1.2.1, oa_ut, oa_bs, oa_lt, oa_ile, oa_inle, oa_ilt, oa_inlt, oa_ieq, oa_ineq, oa_rd_nI, oa_wr_nI, oa_rd_0, oa_rd_1, oa_wr_0, oa_wr_1, oa_rdL_nI, oa_wrL_nI, oa_bi_if0, oa_bi_if1, oa_zc_bi, oa_if_b0, oa_if_b1, nI_1, nI_add, pk_mul, Nat.add_assoc, Int32.add_zero, Int32.sub_zero, Int32.or_zero, Int32.and_neg_one, va_up_s, va_up_n, upd_s, oa_up2, ite_self, if_true, if_false, oa_10, oa_01, oa_neg4, oa_ifno, oa_l2, oa_l3, oa_l4, oa_l5, oa_l6, oa_l7, oa_l8, oa_l9, oa_l10, oa_l12, oa_l15, oa_l16, oa_l20, oa_l32, oa_l40, oa_l42, oa_l48, oa_l64, oa_l90, oa_l96, oa_l97, oa_l98, oa_l99, oa_l100, oa_l120, oa_l360, oa_l450, oa_l457, oa_l458, oa_l480, oa_l528]
theorem cv_endSome {L : Nat} (hR : R 1 = nI L) (h1 : 1 ≤ L) (hL : L ≤ 9) (h : CV n R G P V) (hw : PW n (L + 1) P) : ∃ V', f_X5_endSome V = some V' ∧ CV n R G (en R n P) V' ∧ V' 5 = V 5 := by
  have h6 := h.1.1
  unfold f_X5_endSome l_X5_endSome_2
  refine oa_forK (fun o => ∃ V', o = some V' ∧ CV n R G (en R n P) V' ∧ V' 5 = V 5) (fun i s => ∃ V', s = (V', nI i) ∧ CV n R G (it (fun r => it (en1 R r) n) i P) V' ∧ V' 5 = V 5) n ⟨V, rfl, h, rfl⟩ ?_ ?_ _ (by rw [oa_fu_eq]; omega)
  · rintro i hi s ⟨W, rfl, hW, hW5⟩ k
    left
    have hq := PWe_out h6 hR h1 hL hw i (by omega)
    obtain ⟨W0, f1, f2, f3⟩ := cv_ends_in (k2 := fun V x => k (V, x)) hR hL hW hq hi
    refine ⟨(W0, nI (i + 1)), ⟨W0, rfl, by rw [it_succ]; exact f2, f3.trans hW5⟩, ?_⟩
    simp (disch := (first | omega | assumption | decide)) only [b_X5_endSome_2, hW.1.2.1, f1, oa_ut, oa_bs, oa_lt, oa_ile, oa_inle, oa_ilt, oa_inlt, oa_ieq, oa_ineq, oa_rd_nI, oa_wr_nI, oa_rd_0, oa_rd_1, oa_wr_0, oa_wr_1, oa_rdL_nI, oa_wrL_nI, oa_bi_if0, oa_bi_if1, oa_zc_bi, oa_if_b0, oa_if_b1, nI_1, nI_add, pk_mul, Nat.add_assoc, Int32.add_zero, Int32.sub_zero, Int32.or_zero, Int32.and_neg_one, va_up_s, va_up_n, upd_s, oa_up2, ite_self, if_true, if_false, oa_10, oa_01, oa_neg4, oa_ifno, oa_l2, oa_l3, oa_l4, oa_l5, oa_l6, oa_l7, oa_l8, oa_l9, oa_l10, oa_l12, oa_l15, oa_l16, oa_l20, oa_l32, oa_l40, oa_l42, oa_l48, oa_l64, oa_l90, oa_l96, oa_l97, oa_l98, oa_l99, oa_l100, oa_l120, oa_l360, oa_l450, oa_l457, oa_l458, oa_l480, oa_l528]
  · rintro s ⟨W, rfl, hW, hW5⟩ k
    refine ⟨W, ?_, hW, hW5⟩
    simp (disch := (first | omega | assumption | decide)) only [b_X5_endSome_2, hW.1.2.1, oa_ut, oa_bs, oa_lt, oa_ile, oa_inle, oa_ilt, oa_inlt, oa_ieq, oa_ineq, oa_rd_nI, oa_wr_nI, oa_rd_0, oa_rd_1, oa_wr_0, oa_wr_1, oa_rdL_nI, oa_wrL_nI, oa_bi_if0, oa_bi_if1, oa_zc_bi, oa_if_b0, oa_if_b1, nI_1, nI_add, pk_mul, Nat.add_assoc, Int32.add_zero, Int32.sub_zero, Int32.or_zero, Int32.and_neg_one, va_up_s, va_up_n, upd_s, oa_up2, ite_self, if_true, if_false, oa_10, oa_01, oa_neg4, oa_ifno, oa_l2, oa_l3, oa_l4, oa_l5, oa_l6, oa_l7, oa_l8, oa_l9, oa_l10, oa_l12, oa_l15, oa_l16, oa_l20, oa_l32, oa_l40, oa_l42, oa_l48, oa_l64, oa_l90, oa_l96, oa_l97, oa_l98, oa_l99, oa_l100, oa_l120, oa_l360, oa_l450, oa_l457, oa_l458, oa_l480, oa_l528]
theorem cv_weekly (h : CV n R G P V) : CV n R G (upd P 96 (P 96 + 1)) (va_up V 5 (upd (V 5) 1 (V 5 1 + 1))) := by
  obtain ⟨h1, ⟨h2, h3⟩, h4, h5, h6, h7⟩ := h
  refine ⟨?_, ⟨?_, ?_⟩, ?_, ?_, ?_, ?_⟩
  · obtain ⟨g1, g2, g3, g4⟩ := ct_TR h1 (P' := upd P 96 (P 96 + 1)) (TR_upd (TR_refl P) (by omega) (by omega))
    exact ⟨g1, g2, g3, g4⟩
  · intro r hr
    show V 2 r = _
    rw [h2 r hr]
    exact oa_mk_cong fun k hk => (an_hi (by omega) hr hk).symm
  · intro r hr q hq ha
    rw [an_hi (by omega) hr (by omega)] at ha
    rw [upd_n _ _ (by omega)]
    exact h3 r hr q hq ha
  · intro k hk
    show V 4 k = _
    rw [upd_n _ _ (by omega)]
    exact h4 k hk
  · show V 5 1 + 1 = P 96 + 1 + G 6
    rw [h5, oa_r1]
  · exact h6
  · exact h7
/-- m weeks -/
def wks (R : oa_P) (n m : Nat) (P : oa_P) : oa_P × Int32 := it (fun _ s => wk R n s.1) m (P, 0)
/-- the rules are within their bounds -/
def RB (R : oa_P) (L : Nat) : Prop := R 1 = nI L ∧ 1 ≤ L ∧ L ≤ 9
theorem PW_wks {L : Nat} (hR : RB R L) (h6 : n ≤ 6) (h : PW n L P) : ∀ m, PW n L (wks R n m P).1
  | 0 => h
  | m + 1 => PW_wk h6 hR.1 hR.2.1 hR.2.2 (PW_wks hR h6 h m)
theorem wks_TR (h6 : n ≤ 6) : ∀ m, TR P (wks R n m P).1
  | 0 => TR_refl P
  | m + 1 => TR_trans (wks_TR h6 m) (wk_TR h6 _)
theorem cv_oneWeek {L : Nat} (hR : RB R L) (h : CV n R G P V) (hw : PW n L P) : ∃ V1 V2 V3, f_X5_wrongAll V = some V1 ∧ f_X5_hurtAll V1 = some V2 ∧ f_X5_endSome V2 = some V3 ∧ CV n R G (wk R n P).1 (va_up V3 5 (upd (V3 5) 1 (V3 5 1 + 1))) ∧ va_up V3 5 (upd (V3 5) 1 (V3 5 1 + 1)) 5 4 = (wk R n P).2 := by
  have h6 := h.1.1
  obtain ⟨V1, a1, a2, a3⟩ := cv_wrongAll h
  have w1 := PW_wka (R := R) h6 hR.2.1 hw n (Nat.le_refl n)
  obtain ⟨V2, b1, b2, b3⟩ := cv_hurtAll (B := L) (by have := hR.2.2; omega) a2 w1
  obtain ⟨V3, c1, c2, c3⟩ := cv_endSome hR.1 hR.2.1 hR.2.2 b2 (PW_hu h6 w1)
  refine ⟨V1, V2, V3, a1, b1, c1, cv_weekly c2, ?_⟩
  show V3 5 4 = _
  rw [c3, b3, a3]; rfl
theorem cv_passWeeks {L m : Nat} (hR : RB R L) (hm : m ≤ 99) (h : CV n R G P V) (hw : PW n L P) : ∃ V', f_X5_passWeeks V (nI m) = some (V' 5 2 - V 5 2, V') ∧ CV n R G (wks R n m P).1 V' ∧ V' 5 4 = (wks R n m P).2 := by
  have h6 := h.1.1
  unfold f_X5_passWeeks l_X5_passWeeks_12
  simp only [oa_lt]
  have h0 : CV n R G P (va_up V 5 (upd (V 5) 4 0)) := h
  refine oa_forR (fun o => ∃ V', o = some (V' 5 2 - V 5 2, V') ∧ CV n R G (wks R n m P).1 V' ∧ V' 5 4 = (wks R n m P).2) (fun i s => ∃ V', s = (V', nI i) ∧ CV n R G (wks R n i P).1 V' ∧ V' 5 4 = (wks R n i P).2) m ⟨_, rfl, h0, rfl⟩ ?_ ?_ oa_fu (by rw [oa_fu_eq]; omega)
  · rintro i hi s ⟨W, rfl, hW, hw4⟩
    left
    obtain ⟨V1, V2, V3, a1, a2, a3, a4, a5⟩ := cv_oneWeek hR hW (PW_wks hR h6 hw i)
    refine ⟨(_, nI (i + 1)), ⟨_, rfl, a4, a5⟩, fun k => ?_⟩
    simp (disch := (first | omega | assumption | decide)) only [b_X5_passWeeks_12, a1, a2, a3, oa_ut, oa_bs, oa_lt, oa_ile, oa_inle, oa_ilt, oa_inlt, oa_ieq, oa_ineq, oa_rd_0, oa_rd_1, oa_wr_0, oa_wr_1, oa_rdL_nI, oa_wrL_nI, oa_bi_if0, oa_bi_if1, oa_zc_bi, oa_if_b0, oa_if_b1, nI_1, nI_add, pk_mul, Nat.add_assoc, Int32.add_zero, Int32.sub_zero, Int32.or_zero, Int32.and_neg_one, ite_self, if_true, if_false, oa_10, oa_01, oa_neg4, oa_ifno, oa_l2, oa_l3, oa_l4, oa_l5, oa_l6, oa_l7, oa_l8, oa_l9, oa_l10, oa_l12, oa_l15, oa_l16, oa_l20, oa_l32, oa_l40, oa_l42, oa_l48, oa_l64, oa_l90, oa_l96, oa_l97, oa_l98, oa_l99, oa_l100, oa_l120, oa_l360, oa_l450, oa_l457, oa_l458, oa_l480, oa_l528]
  · rintro s ⟨W, rfl, hW, hw4⟩
    refine ⟨some (W 5 2 - V 5 2, W), ⟨W, rfl, hW, hw4⟩, fun k => ?_⟩
    simp (disch := (first | omega | assumption | decide)) only [b_X5_passWeeks_12, oa_ut, oa_bs, oa_lt, oa_ile, oa_inle, oa_ilt, oa_inlt, oa_ieq, oa_ineq, oa_rd_0, oa_rd_1, oa_wr_0, oa_wr_1, oa_rdL_nI, oa_wrL_nI, oa_bi_if0, oa_bi_if1, oa_zc_bi, oa_if_b0, oa_if_b1, nI_1, nI_add, pk_mul, Nat.add_assoc, Int32.add_zero, Int32.sub_zero, Int32.or_zero, Int32.and_neg_one, ite_self, if_true, if_false, oa_10, oa_01, oa_neg4, oa_ifno, oa_l2, oa_l3, oa_l4, oa_l5, oa_l6, oa_l7, oa_l8, oa_l9, oa_l10, oa_l12, oa_l15, oa_l16, oa_l20, oa_l32, oa_l40, oa_l42, oa_l48, oa_l64, oa_l90, oa_l96, oa_l97, oa_l98, oa_l99, oa_l100, oa_l120, oa_l360, oa_l450, oa_l457, oa_l458, oa_l480, oa_l528]
theorem CV_ext (e : ∀ k, k < 99 → P' k = P k) (h : CV n R G P V) : CV n R G P' V := by
  obtain ⟨⟨a1, a2, a3, a4⟩, ⟨h2, h3⟩, h4, h5, h6, h7⟩ := h
  have ea : ∀ r, r < 6 → ∀ p, p < 7 → an P' r p = an P r p := by
    intro r hr p hp
    unfold an
    rw [e _ (by omega)]
  refine ⟨⟨a1, a2, a3, fun w hw p hp => ?_⟩, ⟨fun r hr => ?_, fun r hr p hp ha => ?_⟩, fun k hk => ?_, ?_, ?_, ?_⟩
  · rw [e _ (by omega)]; exact a4 w hw p hp
  · rw [h2 r hr]; exact oa_mk_cong fun k hk => (ea r hr k hk).symm
  · rw [ea r hr p (by omega)] at ha
    rw [e _ (by omega)]; exact h3 r hr p hp ha
  · rw [e _ (by omega)]; exact h4 k hk
  · rw [e _ (by omega)]; exact h5
  · rw [e _ (by omega)]; exact h6
  · rw [e _ (by omega)]; exact h7
theorem PW_ext {B : Nat} (e : ∀ k, k < 90 → P' k = P k) (h : PW n B P) : PW n B P' := by
  intro r hr p hp
  obtain ⟨a, g1, g2⟩ := h r hr p hp
  exact ⟨a, by rw [e _ (by omega), g1], g2⟩
/-- a copy -/
def oa_cpy (V U : oa_I2) : oa_I2 := fun a => if a = 0 then va_cpy (U 0) (V 0) 0 0 3 else if a = 1 then va_cpy (U 1) (V 1) 0 0 48 else if a = 2 then va_cpy (U 2) (V 2) 0 0 6 else if a = 3 then va_cpy (U 3) (V 3) 0 0 36 else if a = 4 then va_cpy (U 4) (V 4) 0 0 6 else if a = 5 then (fun k => if k < 4 then U 5 k else V 5 k) else V a
theorem f_copyOf (V U : oa_I2) : f_X5_copyOf V U = some (oa_cpy V U) := by
  unfold f_X5_copyOf
  simp only [oa_lt]
  refine congrArg some ?_
  funext a
  unfold oa_cpy
  by_cases h0 : a = 0
  · subst h0; rfl
  by_cases h1 : a = 1
  · subst h1; rfl
  by_cases h2 : a = 2
  · subst h2; rfl
  by_cases h3 : a = 3
  · subst h3; rfl
  by_cases h4 : a = 4
  · subst h4; rfl
  by_cases h5 : a = 5
  · subst h5
    funext q
    show upd (upd (upd (upd (V 5) 0 (U 5 0)) 1 (U 5 1)) 2 (U 5 2)) 3 (U 5 3) q = if q < 4 then U 5 q else V 5 q
    simp only [upd]
    by_cases q3 : q = 3
    · subst q3; rfl
    by_cases q2 : q = 2
    · subst q2; rfl
    by_cases q1 : q = 1
    · subst q1; rfl
    by_cases q0 : q = 0
    · subst q0; rfl
    · simp only [if_neg q3, if_neg q2, if_neg q1, if_neg q0, if_neg (show ¬ q < 4 by omega)]
  · simp only [va_up, h0, h1, h2, h3, h4, h5, if_false]
theorem va_cpy_at {α : Type} (f g : Nat → α) {m k : Nat} (h : k < m) : va_cpy f g 0 0 m k = f k := by
  unfold va_cpy
  rw [if_pos (by omega)]
  congr 1
  omega
theorem cv_cpy {U : oa_I2} (h : CV n R G P U) : CV n R G P (oa_cpy V U) := by
  obtain ⟨⟨a1, a2, a3, a4⟩, ⟨h2, h3⟩, h4, h5, h6, h7⟩ := h
  refine ⟨⟨a1, a2, fun k hk => ?_, fun w hw p hp => ?_⟩, ⟨fun r hr => ?_, fun r hr p hp ha => ?_⟩, fun k hk => ?_, h5, h6, h7⟩
  · show va_cpy (U 0) (V 0) 0 0 3 k = _
    rw [va_cpy_at _ _ hk]; exact a3 k hk
  · show va_cpy (U 1) (V 1) 0 0 48 (w * 6 + p) = _
    rw [va_cpy_at _ _ (by omega)]; exact a4 w hw p hp
  · show va_cpy (U 2) (V 2) 0 0 6 r = _
    rw [va_cpy_at _ _ hr]; exact h2 r hr
  · show _ = va_cpy (U 3) (V 3) 0 0 36 (r * 6 + p) + 1
    rw [va_cpy_at _ _ (by omega)]; exact h3 r hr p hp ha
  · show va_cpy (U 4) (V 4) 0 0 6 k = _
    rw [va_cpy_at _ _ hk]; exact h4 k hk
/-- sums begin anew -/
def pz (P : oa_P) : oa_P := fun k => if (90 ≤ k ∧ k < 96) ∨ k = 97 ∨ k = 98 then 0 else P k
def gz (P : oa_P) : oa_P := fun k => if k = 6 then 0 else P (90 + k)
theorem cv_zero (h : CV n R (fun _ => 0) P V) : CV n R (gz P) (pz P) V := by
  obtain ⟨⟨a1, a2, a3, a4⟩, ⟨h2, h3⟩, h4, h5, h6, h7⟩ := h
  have e : ∀ k, k < 90 → pz P k = P k := by
    intro k hk
    unfold pz
    rw [if_neg (by omega)]
  have ea : ∀ r, r < 6 → ∀ p, p < 7 → an (pz P) r p = an P r p := by
    intro r hr p hp
    unfold an
    rw [e _ (by omega)]
  refine ⟨⟨a1, a2, a3, fun w hw p hp => ?_⟩, ⟨fun r hr => ?_, fun r hr p hp ha => ?_⟩, fun k hk => ?_, ?_, ?_, ?_⟩
  · rw [e _ (by omega)]; exact a4 w hw p hp
  · rw [h2 r hr]; exact oa_mk_cong fun k hk => (ea r hr k hk).symm
  · rw [ea r hr p (by omega)] at ha
    rw [e _ (by omega)]; exact h3 r hr p hp ha
  · unfold pz gz
    rw [if_pos (by omega), if_neg (by omega), h4 k hk, Int32.add_zero, Int32.zero_add]
  · exact h5
  · rw [h6, Int32.add_zero]
    exact (Int32.zero_add _).symm
  · rw [h7, Int32.add_zero]
    exact (Int32.zero_add _).symm
end CXs
