/-! the class's weeks against the page's -/
section CWs
variable {n : Nat} {R G P : oa_P} {V : oa_I2}
theorem cv_loss {p : Nat} {d : Int32} (h : CV n R G P V) (hp : p < 6) : CV n R G (upd P (90 + p) (P (90 + p) - d)) (va_up V 4 (upd (V 4) p (V 4 p - d))) := by
  rw [Int32.sub_eq_add_neg, Int32.sub_eq_add_neg]
  exact cv_gain h hp
theorem cv_doWrong {p q : Nat} (h : CV n R G P V) (hp : p < n) (hq : q < n) : ∃ V', f_X5_doWrong V (nI p) (nI q) = some V' ∧ CV n R G (pw R P n p q) V' ∧ V' 5 = V 5 := by
  have h6 := h.1.1
  have hg := cv_gain (p := p) (d := P (8 * q + 1)) h (by omega)
  have hg : CV n R G (p1 P p q) (va_up V 4 (upd (V 4) p (V 4 p + P (8 * q + 1)))) := hg
  have hl := cv_loss (p := q) (d := p1 P p q (8 * q + 2)) hg (by omega)
  have hl : CV n R G (p2 P p q) (va_up (va_up V 4 (upd (V 4) p (V 4 p + P (8 * q + 1)))) 4 (upd (va_up V 4 (upd (V 4) p (V 4 p + P (8 * q + 1))) 4) q (va_up V 4 (upd (V 4) p (V 4 p + P (8 * q + 1))) 4 q - p1 P p q (8 * q + 2)))) := hl
  unfold f_X5_doWrong
  simp (disch := (first | omega | assumption | decide)) only [cv_able h, cv_minders h, ct_1 h.1, oa_rd_nI, oa_wr_nI, ct_w hg.1, oa_ut, oa_bs, oa_lt, oa_ile, oa_inle, oa_ilt, oa_inlt, oa_ieq, oa_ineq, oa_rd_0, oa_rd_1, oa_wr_0, oa_wr_1, oa_rdL_nI, oa_wrL_nI, oa_bi_if0, oa_bi_if1, oa_zc_bi, oa_if_b0, oa_if_b1, nI_1, nI_add, pk_mul, Nat.add_assoc, Int32.add_zero, Int32.sub_zero, Int32.or_zero, Int32.and_neg_one, ite_self, if_true, if_false, oa_10, oa_01, oa_neg4, oa_ifno, oa_l2, oa_l3, oa_l4, oa_l5, oa_l6, oa_l7, oa_l8, oa_l9, oa_l10, oa_l12, oa_l15, oa_l16, oa_l20, oa_l32, oa_l40, oa_l42, oa_l48, oa_l64, oa_l90, oa_l96, oa_l97, oa_l98, oa_l99, oa_l100, oa_l120, oa_l360, oa_l450, oa_l457, oa_l458, oa_l480, oa_l528]
  generalize hV2 : va_up (va_up V 4 (upd (V 4) p (V 4 p + P (8 * q + 1)))) 4 (upd (va_up V 4 (upd (V 4) p (V 4 p + P (8 * q + 1))) 4) q (va_up V 4 (upd (V 4) p (V 4 p + P (8 * q + 1))) 4 q - p1 P p q (8 * q + 2))) = V2 at hl
  have h5 : V2 5 = V 5 := by rw [← hV2]; rfl
  unfold l_X5_doWrong_44
  refine oa_forR (fun o => ∃ V', o = some V' ∧ CV n R G (pw R P n p q) V' ∧ V' 5 = V 5) (fun i s => ∃ V', s = (V', nI i) ∧ CV n R G (it (setr (wo R P p q) p) i (p2 P p q)) V' ∧ V' 5 = V 5) n ⟨V2, rfl, hl, h5⟩ ?_ ?_ _ (by rw [oa_fu_eq]; omega)
  · rintro i hi s ⟨W, rfl, hW, hW5⟩
    left
    cases hw : wo R P p q i
    · refine ⟨(W, nI (i + 1)), ⟨W, rfl, ?_, hW5⟩, fun k => ?_⟩
      · rw [it_succ]; unfold setr; rw [if_neg (by rw [hw]; decide)]; exact hW
      · simp (disch := (first | omega | assumption | decide)) only [b_X5_doWrong_44, hW.1.2.1, bt_mk, hw, oa_ut, oa_bs, oa_lt, oa_ile, oa_inle, oa_ilt, oa_inlt, oa_ieq, oa_ineq, oa_rd_nI, oa_wr_nI, oa_rd_0, oa_rd_1, oa_wr_0, oa_wr_1, oa_rdL_nI, oa_wrL_nI, oa_bi_if0, oa_bi_if1, oa_zc_bi, oa_if_b0, oa_if_b1, nI_1, nI_add, pk_mul, Nat.add_assoc, Int32.add_zero, Int32.sub_zero, Int32.or_zero, Int32.and_neg_one, va_up_s, va_up_n, upd_s, oa_up2, ite_self, if_true, if_false, oa_10, oa_01, oa_neg4, oa_ifno, oa_l2, oa_l3, oa_l4, oa_l5, oa_l6, oa_l7, oa_l8, oa_l9, oa_l10, oa_l12, oa_l15, oa_l16, oa_l20, oa_l32, oa_l40, oa_l42, oa_l48, oa_l64, oa_l90, oa_l96, oa_l97, oa_l98, oa_l99, oa_l100, oa_l120, oa_l360, oa_l450, oa_l457, oa_l458, oa_l480, oa_l528]
        rfl
    · obtain ⟨W', e1, e2, e3⟩ := cv_start (r := i) (p := p) hW (by omega) (by omega)
      refine ⟨(W', nI (i + 1)), ⟨W', rfl, ?_, e3.trans hW5⟩, fun k => ?_⟩
      · rw [it_succ]; unfold setr; rw [if_pos hw]; exact e2
      · simp (disch := (first | omega | assumption | decide)) only [b_X5_doWrong_44, hW.1.2.1, bt_mk, hw, e1, oa_ut, oa_bs, oa_lt, oa_ile, oa_inle, oa_ilt, oa_inlt, oa_ieq, oa_ineq, oa_rd_nI, oa_wr_nI, oa_rd_0, oa_rd_1, oa_wr_0, oa_wr_1, oa_rdL_nI, oa_wrL_nI, oa_bi_if0, oa_bi_if1, oa_zc_bi, oa_if_b0, oa_if_b1, nI_1, nI_add, pk_mul, Nat.add_assoc, Int32.add_zero, Int32.sub_zero, Int32.or_zero, Int32.and_neg_one, va_up_s, va_up_n, upd_s, oa_up2, ite_self, if_true, if_false, oa_10, oa_01, oa_neg4, oa_ifno, oa_l2, oa_l3, oa_l4, oa_l5, oa_l6, oa_l7, oa_l8, oa_l9, oa_l10, oa_l12, oa_l15, oa_l16, oa_l20, oa_l32, oa_l40, oa_l42, oa_l48, oa_l64, oa_l90, oa_l96, oa_l97, oa_l98, oa_l99, oa_l100, oa_l120, oa_l360, oa_l450, oa_l457, oa_l458, oa_l480, oa_l528]
  · rintro s ⟨W, rfl, hW, hW5⟩
    refine ⟨some W, ⟨W, rfl, hW, hW5⟩, fun k => ?_⟩
    simp (disch := (first | omega | assumption | decide)) only [b_X5_doWrong_44, hW.1.2.1, oa_ut, oa_bs, oa_lt, oa_ile, oa_inle, oa_ilt, oa_inlt, oa_ieq, oa_ineq, oa_rd_nI, oa_wr_nI, oa_rd_0, oa_rd_1, oa_wr_0, oa_wr_1, oa_rdL_nI, oa_wrL_nI, oa_bi_if0, oa_bi_if1, oa_zc_bi, oa_if_b0, oa_if_b1, nI_1, nI_add, pk_mul, Nat.add_assoc, Int32.add_zero, Int32.sub_zero, Int32.or_zero, Int32.and_neg_one, va_up_s, va_up_n, upd_s, oa_up2, ite_self, if_true, if_false, oa_10, oa_01, oa_neg4, oa_ifno, oa_l2, oa_l3, oa_l4, oa_l5, oa_l6, oa_l7, oa_l8, oa_l9, oa_l10, oa_l12, oa_l15, oa_l16, oa_l20, oa_l32, oa_l40, oa_l42, oa_l48, oa_l64, oa_l90, oa_l96, oa_l97, oa_l98, oa_l99, oa_l100, oa_l120, oa_l360, oa_l450, oa_l457, oa_l458, oa_l480, oa_l528]
theorem tr_up5 (x : Nat → Int32) : f_X5_trait (va_up V 5 x) = f_X5_trait V := rfl
/-- sums of a wrong -/
theorem cv_sum {x w : Int32} (h : CV n R G P V) : CV n R G (upd (upd P 97 (P 97 + x)) 98 (P 98 + 1)) (va_up (va_up (va_up V 5 (upd (V 5) 4 w)) 5 (upd (upd (V 5) 4 w) 3 (V 5 3 + 1))) 5 (upd (upd (upd (V 5) 4 w) 3 (V 5 3 + 1)) 2 (V 5 2 + x))) := by
  obtain ⟨h1, ⟨h2, h3⟩, h4, h5, h6, h7⟩ := h
  have t : TR P (upd (upd P 97 (P 97 + x)) 98 (P 98 + 1)) := TR_upd (TR_upd (TR_refl P) (by omega) (by omega)) (by omega) (by omega)
  refine ⟨?_, ⟨?_, ?_⟩, ?_, ?_, ?_, ?_⟩
  · obtain ⟨g1, g2, g3, g4⟩ := ct_TR h1 t
    exact ⟨g1, g2, g3, g4⟩
  · intro r hr
    show V 2 r = _
    rw [h2 r hr]
    exact oa_mk_cong fun k hk => ((an_hi (by omega) hr hk).trans (an_hi (by omega) hr hk)).symm
  · intro r hr q hq ha
    rw [an_hi (by omega) hr (by omega), an_hi (by omega) hr (by omega)] at ha
    rw [upd_n _ _ (by omega), upd_n _ _ (by omega)]
    exact h3 r hr q hq ha
  · intro k hk
    show V 4 k = _
    rw [upd_n _ _ (by omega), upd_n _ _ (by omega)]
    exact h4 k hk
  · exact h5
  · show V 5 2 + x = P 97 + x + G 7
    rw [h6, oa_r1]
  · show V 5 3 + 1 = P 98 + 1 + G 8
    rw [h7, oa_r1]
theorem cv_wrongAll (h : CV n R G P V) : ∃ V', f_X5_wrongAll V = some V' ∧ CV n R G (wka R n P).1 V' ∧ V' 5 4 = (wka R n P).2 := by
  have h6 := h.1.1
  unfold f_X5_wrongAll l_X5_wrongAll_7
  simp (disch := (first | omega | assumption | decide)) only [oa_ut, oa_bs, oa_lt, oa_ile, oa_inle, oa_ilt, oa_inlt, oa_ieq, oa_ineq, oa_rd_0, oa_rd_1, oa_wr_0, oa_wr_1, oa_rdL_nI, oa_wrL_nI, oa_bi_if0, oa_bi_if1, oa_zc_bi, oa_if_b0, oa_if_b1, nI_1, nI_add, pk_mul, Nat.add_assoc, Int32.add_zero, Int32.sub_zero, Int32.or_zero, Int32.and_neg_one, ite_self, if_true, if_false, oa_10, oa_01, oa_neg4, oa_ifno, oa_l2, oa_l3, oa_l4, oa_l5, oa_l6, oa_l7, oa_l8, oa_l9, oa_l10, oa_l12, oa_l15, oa_l16, oa_l20, oa_l32, oa_l40, oa_l42, oa_l48, oa_l64, oa_l90, oa_l96, oa_l97, oa_l98, oa_l99, oa_l100, oa_l120, oa_l360, oa_l450, oa_l457, oa_l458, oa_l480, oa_l528]
  have h0 : CV n R G P (va_up V 5 (upd (V 5) 4 0)) := h
  refine oa_forR (fun o => ∃ V', o = some V' ∧ CV n R G (wka R n P).1 V' ∧ V' 5 4 = (wka R n P).2) (fun i s => ∃ V', s = (V', nI i) ∧ CV n R G (it (wk1 R n) i (P, 0)).1 V' ∧ V' 5 4 = (it (wk1 R n) i (P, 0)).2) n ⟨_, rfl, h0, rfl⟩ ?_ ?_ _ (by rw [oa_fu_eq]; omega)
  · rintro i hi s ⟨W, rfl, hW, hw⟩
    left
    rw [it_succ]
    generalize it (wk1 R n) i (P, 0) = s at hW hw
    obtain ⟨Q, v⟩ := s
    have hW : CV n R G Q W := hW
    have hw : W 5 4 = v := hw
    unfold wk1
    rcases cho_some R Q n i with h1 | ⟨q, h1, h2, h3⟩
    · refine ⟨(W, nI (i + 1)), ⟨W, rfl, ?_, ?_⟩, fun k => ?_⟩
      · show CV n R G (if cho R Q n i = oNO then _ else _ : oa_P × Int32).1 W
        rw [if_pos h1]; exact hW
      · show W 5 4 = (if cho R Q n i = oNO then _ else _ : oa_P × Int32).2
        rw [if_pos h1]; exact hw
      · simp (disch := (first | omega | assumption | decide)) only [b_X5_wrongAll_7, hW.1.2.1, cv_ableAsSeen hW, cv_choice hW, h1, oa_ut, oa_bs, oa_lt, oa_ile, oa_inle, oa_ilt, oa_inlt, oa_ieq, oa_ineq, oa_rd_nI, oa_wr_nI, oa_rd_0, oa_rd_1, oa_wr_0, oa_wr_1, oa_rdL_nI, oa_wrL_nI, oa_bi_if0, oa_bi_if1, oa_zc_bi, oa_if_b0, oa_if_b1, nI_1, nI_add, pk_mul, Nat.add_assoc, Int32.add_zero, Int32.sub_zero, Int32.or_zero, Int32.and_neg_one, va_up_s, va_up_n, upd_s, oa_up2, ite_self, if_true, if_false, oa_10, oa_01, oa_neg4, oa_ifno, oa_l2, oa_l3, oa_l4, oa_l5, oa_l6, oa_l7, oa_l8, oa_l9, oa_l10, oa_l12, oa_l15, oa_l16, oa_l20, oa_l32, oa_l40, oa_l42, oa_l48, oa_l64, oa_l90, oa_l96, oa_l97, oa_l98, oa_l99, oa_l100, oa_l120, oa_l360, oa_l450, oa_l457, oa_l458, oa_l480, oa_l528]
    · obtain ⟨W', e1, e2, e3⟩ := cv_doWrong (p := i) (q := q) hW hi h1
      have hc : ¬ cho R Q n i = oNO := by rw [h3]; exact oa_no (by omega)
      have e4 := cv_sum (x := pw R Q n i q (8 * q + 2)) (w := v ||| ((1 : Int32) <<< (nI i &&& 31))) e2
      generalize hU : va_up (va_up (va_up W' 5 (upd (W' 5) 4 (v ||| ((1 : Int32) <<< (nI i &&& 31))))) 5 (upd (upd (W' 5) 4 (v ||| ((1 : Int32) <<< (nI i &&& 31)))) 3 (W' 5 3 + 1))) 5 (upd (upd (upd (W' 5) 4 (v ||| ((1 : Int32) <<< (nI i &&& 31)))) 3 (W' 5 3 + 1)) 2 (W' 5 2 + pw R Q n i q (8 * q + 2))) = U at e4
      refine ⟨(U, nI (i + 1)), ⟨U, rfl, ?_, ?_⟩, fun k => ?_⟩
      · show CV n R G (if cho R Q n i = oNO then _ else _ : oa_P × Int32).1 _
        rw [if_neg hc, h3, nI_clamp (by omega)]
        exact e4
      · show _ = (if cho R Q n i = oNO then _ else _ : oa_P × Int32).2
        rw [if_neg hc, ← hU]
        rfl
      · have ew : W' 5 4 = v := by rw [e3]; exact hw
        simp (disch := (first | omega | assumption | decide)) only [b_X5_wrongAll_7, hW.1.2.1, cv_ableAsSeen hW, cv_choice hW, h3, e1, tr_up5, ct_w e2.1, oa_ut, oa_bs, oa_lt, oa_ile, oa_inle, oa_ilt, oa_inlt, oa_ieq, oa_ineq, oa_rd_0, oa_rd_1, oa_wr_0, oa_wr_1, oa_rdL_nI, oa_wrL_nI, oa_bi_if0, oa_bi_if1, oa_zc_bi, oa_if_b0, oa_if_b1, nI_1, nI_add, pk_mul, Nat.add_assoc, Int32.add_zero, Int32.sub_zero, Int32.or_zero, Int32.and_neg_one, ite_self, if_true, if_false, oa_10, oa_01, oa_neg4, oa_ifno, oa_l2, oa_l3, oa_l4, oa_l5, oa_l6, oa_l7, oa_l8, oa_l9, oa_l10, oa_l12, oa_l15, oa_l16, oa_l20, oa_l32, oa_l40, oa_l42, oa_l48, oa_l64, oa_l90, oa_l96, oa_l97, oa_l98, oa_l99, oa_l100, oa_l120, oa_l360, oa_l450, oa_l457, oa_l458, oa_l480, oa_l528]
        rw [ew, ← hU]
        rfl
  · rintro s ⟨W, rfl, hW, hw⟩
    refine ⟨some W, ⟨W, rfl, hW, hw⟩, fun k => ?_⟩
    simp (disch := (first | omega | assumption | decide)) only [b_X5_wrongAll_7, hW.1.2.1, oa_ut, oa_bs, oa_lt, oa_ile, oa_inle, oa_ilt, oa_inlt, oa_ieq, oa_ineq, oa_rd_nI, oa_wr_nI, oa_rd_0, oa_rd_1, oa_wr_0, oa_wr_1, oa_rdL_nI, oa_wrL_nI, oa_bi_if0, oa_bi_if1, oa_zc_bi, oa_if_b0, oa_if_b1, nI_1, nI_add, pk_mul, Nat.add_assoc, Int32.add_zero, Int32.sub_zero, Int32.or_zero, Int32.and_neg_one, va_up_s, va_up_n, upd_s, oa_up2, ite_self, if_true, if_false, oa_10, oa_01, oa_neg4, oa_ifno, oa_l2, oa_l3, oa_l4, oa_l5, oa_l6, oa_l7, oa_l8, oa_l9, oa_l10, oa_l12, oa_l15, oa_l16, oa_l20, oa_l32, oa_l40, oa_l42, oa_l48, oa_l64, oa_l90, oa_l96, oa_l97, oa_l98, oa_l99, oa_l100, oa_l120, oa_l360, oa_l450, oa_l457, oa_l458, oa_l480, oa_l528]
/-! ages are small -/
def PWh (n B r p : Nat) (P : oa_P) : Prop := ∀ r', r' < 6 → ∀ p', p' < 7 → ∃ a : Nat, P (48 + (7 * r' + p')) = nI a ∧ (a ≤ B ∨ (r' < r ∨ r' = r ∧ p' < p) ∧ a ≤ B + 1) ∧ (0 < a → r' < n ∧ (p' < n ∨ p' = 6)) ∧ (p' = 6 → a ≤ 1)
theorem PWh_step {B r p : Nat} (h6 : n ≤ 6) (hr : r < n) (hp : p < n) (h : PWh n B r p P) : PWh n B r (p + 1) (hu1 r p P) := by
  intro r' hr' p' hp'
  obtain ⟨a, h1, h2, h3, h4⟩ := h r' hr' p' hp'
  unfold hu1
  split
  · by_cases e : r' = r ∧ p' = p
    · obtain ⟨rfl, rfl⟩ := e
      refine ⟨a + 1, ?_, Or.inr ⟨by omega, by omega⟩, fun _ => by omega, by omega⟩
      rw [upd_s, h1, nI_1]
    · refine ⟨a, ?_, by omega, h3, h4⟩
      rw [upd_n _ _ (by omega), upd_n _ _ (by omega), h1]
  · exact ⟨a, h1, by omega, h3, h4⟩
theorem PWh_row {B r : Nat} (h : PWh n B r n P) : PWh n B (r + 1) 0 P := by
  intro r' hr' p' hp'
  obtain ⟨a, h1, h2, h3, h4⟩ := h r' hr' p' hp'
  exact ⟨a, h1, by omega, h3, h4⟩
theorem PWh_in {B r : Nat} (h6 : n ≤ 6) (hr : r < n) (h : PWh n B r 0 P) : ∀ i, i ≤ n → PWh n B r i (it (hu1 r) i P)
  | 0, _ => h
  | i + 1, hi => PWh_step h6 hr (by omega) (PWh_in h6 hr h i (by omega))
theorem PWh_out {B : Nat} (h6 : n ≤ 6) (h : PW n B P) : ∀ i, i ≤ n → PWh n B i 0 (it (fun r => it (hu1 r) n) i P)
  | 0, _ => fun r' hr' p' hp' => by
    obtain ⟨a, h1, h2, h3, h4⟩ := h r' hr' p' hp'
    exact ⟨a, h1, Or.inl h2, h3, h4⟩
  | i + 1, hi => PWh_row (PWh_in h6 (by omega) (PWh_out h6 h i (by omega)) n (Nat.le_refl n))
theorem PW_hu {B : Nat} (h6 : n ≤ 6) (h : PW n B P) : PW n (B + 1) (hu n P) := by
  intro r' hr' p' hp'
  obtain ⟨a, h1, h2, h3, h4⟩ := PWh_out h6 h n (Nat.le_refl n) r' hr' p' hp'
  exact ⟨a, h1, by omega, h3, h4⟩
theorem PW_set {B r p : Nat} {x : Nat} (h : PW n B P) (hr : r < n) (hp : p < n ∨ p = 6) (hx : x ≤ B) (h1 : x ≤ 1) (hp7 : p < 7) : PW n B (upd P (48 + (7 * r + p)) (nI x)) := by
  intro r' hr' p' hp'
  obtain ⟨a, g1, g2, g3, g4⟩ := h r' hr' p' hp'
  by_cases e : r' = r ∧ p' = p
  · obtain ⟨rfl, rfl⟩ := e
    exact ⟨x, upd_s _ _ _, hx, fun _ => ⟨hr, hp⟩, fun _ => h1⟩
  · refine ⟨a, ?_, g2, g3, g4⟩
    rw [upd_n _ _ (by omega), g1]
theorem PW_hi {B k : Nat} {x : Int32} (h : PW n B P) (hk : 90 ≤ k) : PW n B (upd P k x) := by
  intro r' hr' p' hp'
  obtain ⟨a, g1, g2, g3, g4⟩ := h r' hr' p' hp'
  exact ⟨a, by rw [upd_n _ _ (by omega), g1], g2, g3, g4⟩
theorem PW_it {f : Nat → oa_P → oa_P} {B : Nat} : ∀ {N : Nat}, (∀ k, k < N → ∀ Q, PW n B Q → PW n B (f k Q)) → ∀ {P}, PW n B P → PW n B (it f N P)
  | 0, _, _, h => h
  | N + 1, hf, _, h => hf N (by omega) _ (PW_it (fun k hk => hf k (by omega)) h)
theorem PW_pw {B p q : Nat} (h6 : n ≤ 6) (hB : 1 ≤ B) (hp : p < n) (hq : q < n) (h : PW n B P) : PW n B (pw R P n p q) := by
  unfold pw p2 p1
  refine PW_it (fun k hk Q hQ => ?_) (PW_hi (PW_hi h (by omega)) (by omega))
  unfold setr
  split
  · exact PW_set (x := 1) hQ hk (Or.inl hp) hB (by omega) (by omega)
  · exact hQ
theorem PW_wk1 {B p : Nat} {s : oa_P × Int32} (h6 : n ≤ 6) (hB : 1 ≤ B) (hp : p < n) (h : PW n B s.1) : PW n B (wk1 R n p s).1 := by
  unfold wk1
  rcases cho_some R s.1 n p with h1 | ⟨q, h1, _, h2⟩
  · rw [if_pos h1]; exact h
  · split
    · exact h
    · rw [h2, nI_clamp (by omega)]
      exact PW_hi (PW_hi (PW_pw h6 hB hp h1 h) (by omega)) (by omega)
theorem PW_wka {B : Nat} (h6 : n ≤ 6) (hB : 1 ≤ B) (h : PW n B P) : ∀ i, i ≤ n → PW n B (it (wk1 R n) i (P, 0)).1
  | 0, _ => h
  | i + 1, hi => PW_wk1 h6 hB (by omega) (PW_wka h6 hB h i (by omega))
def PWe (n L r p : Nat) (P : oa_P) : Prop := ∀ r', r' < 6 → ∀ p', p' < 7 → ∃ a : Nat, P (48 + (7 * r' + p')) = nI a ∧ (a ≤ L ∨ ¬ (r' < r ∨ r' = r ∧ p' < p) ∧ a ≤ L + 1) ∧ (0 < a → r' < n ∧ (p' < n ∨ p' = 6)) ∧ (p' = 6 → a ≤ 1)
theorem en1_at {r p k : Nat} (hk : k ≠ 48 + (7 * r + p)) (h9 : k < 90) : en1 R r p P k = P k := by
  unfold en1 pay
  split
  · rfl
  split
  · rw [upd_n _ _ hk]
  split
  · rw [upd_n _ _ (by omega), upd_n _ _ (by omega), upd_n _ _ hk]
  · rfl
theorem en1_own {L r p a : Nat} (hR : R 1 = nI L) (hL : L ≤ 9) (hr : r < 6) (hp : p < 6) (ha : P (48 + (7 * r + p)) = nI a) (h : a ≤ L + 1) : ∃ b : Nat, en1 R r p P (48 + (7 * r + p)) = nI b ∧ b ≤ L ∧ b ≤ a := by
  unfold en1 pay
  rw [ha, hR]
  rcases a with _ | a
  · rw [if_pos (by decide)]
    exact ⟨0, ha, by omega, by omega⟩
  · rw [nI_pred, if_neg (nI_pos (by omega))]
    by_cases l : L ≤ a
    · rw [if_pos (nI_le l (by omega)), upd_s]
      exact ⟨0, rfl, by omega, by omega⟩
    · rw [if_neg (nI_ge (by omega) (by omega))]
      split
      · rw [upd_n _ _ (by omega), upd_n _ _ (by omega), upd_s]
        exact ⟨0, rfl, by omega, by omega⟩
      · exact ⟨a + 1, ha, by omega, by omega⟩
theorem PWe_step {L r p : Nat} (h6 : n ≤ 6) (hr : r < n) (hp : p < n) (hR : R 1 = nI L) (hL : L ≤ 9) (h : PWe n L r p P) : PWe n L r (p + 1) (en1 R r p P) := by
  intro r' hr' p' hp'
  obtain ⟨a, h1, h2, h3, h4⟩ := h r' hr' p' hp'
  by_cases e : r' = r ∧ p' = p
  · obtain ⟨rfl, rfl⟩ := e
    obtain ⟨b, g1, g2, g3⟩ := en1_own (P := P) hR hL (by omega) (by omega) h1 (by omega)
    exact ⟨b, g1, Or.inl g2, fun hb => h3 (by omega), by omega⟩
  · refine ⟨a, ?_, by omega, h3, h4⟩
    rw [en1_at (by omega) (by omega), h1]
theorem PWe_in {L r : Nat} (h6 : n ≤ 6) (hr : r < n) (hR : R 1 = nI L) (hL : L ≤ 9) (h : PWe n L r 0 P) : ∀ i, i ≤ n → PWe n L r i (it (en1 R r) i P)
  | 0, _ => h
  | i + 1, hi => PWe_step h6 hr (by omega) hR hL (PWe_in h6 hr hR hL h i (by omega))
theorem PWe_row {L r : Nat} (h1 : 1 ≤ L) (h : PWe n L r n P) : PWe n L (r + 1) 0 P := by
  intro r' hr' p' hp'
  obtain ⟨a, g1, g2, g3, g4⟩ := h r' hr' p' hp'
  refine ⟨a, g1, ?_, g3, g4⟩
  by_cases e : a ≤ L
  · exact Or.inl e
  · have := g3 (by omega)
    omega
theorem PWe_out {L : Nat} (h6 : n ≤ 6) (hR : R 1 = nI L) (h1 : 1 ≤ L) (hL : L ≤ 9) (h : PW n (L + 1) P) : ∀ i, i ≤ n → PWe n L i 0 (it (fun r => it (en1 R r) n) i P)
  | 0, _ => fun r' hr' p' hp' => by
    obtain ⟨a, g1, g2, g3, g4⟩ := h r' hr' p' hp'
    exact ⟨a, g1, by omega, g3, g4⟩
  | i + 1, hi => PWe_row h1 (PWe_in h6 (by omega) hR hL (PWe_out h6 hR h1 hL h i (by omega)) n (Nat.le_refl n))
theorem PW_en {L : Nat} (h6 : n ≤ 6) (hR : R 1 = nI L) (h1 : 1 ≤ L) (hL : L ≤ 9) (h : PW n (L + 1) P) : PW n L (en R n P) := by
  intro r' hr' p' hp'
  obtain ⟨a, g1, g2, g3, g4⟩ := PWe_out h6 hR h1 hL h n (Nat.le_refl n) r' hr' p' hp'
  refine ⟨a, g1, ?_, g3, g4⟩
  by_cases e : a ≤ L
  · exact e
  · have := g3 (by omega)
    omega
theorem PW_wk {L : Nat} (h6 : n ≤ 6) (hR : R 1 = nI L) (h1 : 1 ≤ L) (hL : L ≤ 9) (h : PW n L P) : PW n L (wk R n P).1 :=
  PW_hi (PW_en h6 hR h1 hL (PW_hu h6 (PW_wka h6 h1 h n (Nat.le_refl n)))) (by omega)
end CWs
