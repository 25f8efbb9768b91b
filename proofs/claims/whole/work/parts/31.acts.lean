/-! calls that change the village -/
section C2
variable {B : oa_I3} {J : oa_J2} {M : oa_I2} {K : oa_J2}
theorem oa_ms_upd {k : Nat} {x : Int32} : va_up M 1 (upd (M 1) k x) = oa_ms M 0 (upd (M 1) k x) (M 0 9) := by
  have := oa_ms_up (M := M) (a := 0) (P := M 1) (w := M 0 9) (k := k) (x := x)
  rw [oa_ms_M, Nat.zero_add] at this
  exact this
theorem Rel_id (h : Rel B M) : Rel (va_up B 0 (B 0)) M := by
  have : va_up B 0 (B 0) = B := by
    funext j
    unfold va_up
    by_cases e : j = 0
    · rw [if_pos e, e]
    · rw [if_neg e]
  rw [this]; exact h
theorem tb0 : ∀ w, w < 7 → oa_rd (oa_tbv 0) (oa_tln 0) (nI w) = some (if w = 5 then 1 else 0) := by decide +kernel
theorem tb1 : ∀ w, w < 7 → oa_rd (oa_tbv 1) (oa_tln 1) (nI w) = some (if w = 0 ∨ w = 5 then 4 else 20) := by decide +kernel
theorem c_set (h : Rel B M) (x y z : Int32) : ∃ a B' M', f_X6_set B J x y z = some (a, B') ∧ f_X7_set M K x y z = some (a, M') ∧ Rel B' M' := by
  have h0 := h
  obtain ⟨n, L, hR, ⟨cv, hp, h99, tb⟩, hI, hT, hF, hS, hC⟩ := h
  have h6 := cv.1.1
  unfold f_X6_set f_X7_set
  simp (disch := (first | omega | assumption | decide)) only [ct_has cv.1, md_isOne h99, f_within, f_in_0_1, f_in_0_2, f_in_0_3, f_in_0_4, f_in_0_6, f_in_0_7, f_in_0_12, f_in_0_20, f_in_0_99, f_in_1_4, f_in_1_99, oa_ut, oa_bs, oa_lt, oa_ile, oa_inle, oa_ilt, oa_inlt, oa_ieq, oa_ineq, oa_rd_nI, oa_wr_nI, oa_rd_0, oa_rd_1, oa_wr_0, oa_wr_1, oa_rdL_nI, oa_wrL_nI, oa_bi_if0, oa_bi_if1, oa_zc_bi, oa_if_b0, oa_if_b1, nI_1, nI_add, pk_mul, Nat.add_assoc, Int32.add_zero, Int32.sub_zero, Int32.or_zero, Int32.and_neg_one, va_up_s, va_up_n, upd_s, oa_up2, ite_self, if_true, if_false, oa_10, oa_01, oa_neg4, oa_ifno, oa_l2, oa_l3, oa_l4, oa_l5, oa_l6, oa_l7, oa_l8, oa_l9, oa_l10, oa_l12, oa_l15, oa_l16, oa_l20, oa_l32, oa_l40, oa_l42, oa_l48, oa_l64, oa_l90, oa_l96, oa_l97, oa_l98, oa_l99, oa_l100, oa_l120, oa_l360, oa_l450, oa_l457, oa_l458, oa_l480, oa_l528]
  cases hx : oa_wi x 0 (nI n - 1)
  · exact ⟨_, _, _, rfl, rfl, h0⟩
  · obtain ⟨p, hp, rfl⟩ := oa_has_t h6 hx
    cases hy : oa_wi y 0 (nI 6)
    · exact ⟨_, _, _, rfl, rfl, h0⟩
    · obtain ⟨w, _, hw, rfl⟩ := oa_wi_t (a := 0) (by omega) hy (by omega)
      rw [tb0 w (by omega), tb1 w (by omega)]
      have hm : (if nI w = nI 5 then b_X7_set_32 K (nI p) (nI w) z M z.toInt64 1 else b_X7_set_32 K (nI p) (nI w) z M z.toInt64 0) = (if oa_wi z (if w = 5 then 1 else 0) (if w = 0 ∨ w = 5 then 4 else 20) = true then some (M 1 (8 * p + w), va_up M 1 (upd (M 1) (8 * p + w) z)) else some (-1, M)) := by
        by_cases e5 : w = 5
        · subst e5
          simp (disch := (first | omega | assumption | decide)) only [b_X7_set_32, b_X7_set_50, f_in_0_1, f_in_0_2, f_in_0_3, f_in_0_4, f_in_0_6, f_in_0_7, f_in_0_12, f_in_0_20, f_in_0_99, f_in_1_4, f_in_1_99, or_true, oa_ut, oa_bs, oa_lt, oa_ile, oa_inle, oa_ilt, oa_inlt, oa_ieq, oa_ineq, oa_rd_nI, oa_wr_nI, oa_rd_0, oa_rd_1, oa_wr_0, oa_wr_1, oa_rdL_nI, oa_wrL_nI, oa_bi_if0, oa_bi_if1, oa_zc_bi, oa_if_b0, oa_if_b1, nI_1, nI_add, pk_mul, Nat.add_assoc, Int32.add_zero, Int32.sub_zero, Int32.or_zero, Int32.and_neg_one, va_up_s, va_up_n, upd_s, oa_up2, ite_self, if_true, if_false, oa_10, oa_01, oa_neg4, oa_ifno, oa_l2, oa_l3, oa_l4, oa_l5, oa_l6, oa_l7, oa_l8, oa_l9, oa_l10, oa_l12, oa_l15, oa_l16, oa_l20, oa_l32, oa_l40, oa_l42, oa_l48, oa_l64, oa_l90, oa_l96, oa_l97, oa_l98, oa_l99, oa_l100, oa_l120, oa_l360, oa_l450, oa_l457, oa_l458, oa_l480, oa_l528]
        · rw [if_neg (fun c => e5 ((nI_eq (by omega) (by omega)).mp c)), if_neg e5]
          by_cases e0 : w = 0
          · subst e0
            simp (disch := (first | omega | assumption | decide)) only [b_X7_set_32, b_X7_set_50, f_in_0_1, f_in_0_2, f_in_0_3, f_in_0_4, f_in_0_6, f_in_0_7, f_in_0_12, f_in_0_20, f_in_0_99, f_in_1_4, f_in_1_99, nI_0, oa_ut, oa_bs, oa_lt, oa_ile, oa_inle, oa_ilt, oa_inlt, oa_ieq, oa_ineq, oa_rd_nI, oa_wr_nI, oa_rd_0, oa_rd_1, oa_wr_0, oa_wr_1, oa_rdL_nI, oa_wrL_nI, oa_bi_if0, oa_bi_if1, oa_zc_bi, oa_if_b0, oa_if_b1, nI_1, nI_add, pk_mul, Nat.add_assoc, Int32.add_zero, Int32.sub_zero, Int32.or_zero, Int32.and_neg_one, va_up_s, va_up_n, upd_s, oa_up2, ite_self, if_true, if_false, oa_10, oa_01, oa_neg4, oa_ifno, oa_l2, oa_l3, oa_l4, oa_l5, oa_l6, oa_l7, oa_l8, oa_l9, oa_l10, oa_l12, oa_l15, oa_l16, oa_l20, oa_l32, oa_l40, oa_l42, oa_l48, oa_l64, oa_l90, oa_l96, oa_l97, oa_l98, oa_l99, oa_l100, oa_l120, oa_l360, oa_l450, oa_l457, oa_l458, oa_l480, oa_l528]
            rfl
          · have hw0 : ¬ nI w = 0 := nI_ne0 (by omega) (by omega)
            rw [if_neg (show ¬ (w = 0 ∨ w = 5) by omega)]
            simp (disch := (first | omega | assumption | decide)) only [b_X7_set_32, b_X7_set_50, f_in_0_1, f_in_0_2, f_in_0_3, f_in_0_4, f_in_0_6, f_in_0_7, f_in_0_12, f_in_0_20, f_in_0_99, f_in_1_4, f_in_1_99, if_neg hw0, oa_ut, oa_bs, oa_lt, oa_ile, oa_inle, oa_ilt, oa_inlt, oa_ieq, oa_ineq, oa_rd_nI, oa_wr_nI, oa_rd_0, oa_rd_1, oa_wr_0, oa_wr_1, oa_rdL_nI, oa_wrL_nI, oa_bi_if0, oa_bi_if1, oa_zc_bi, oa_if_b0, oa_if_b1, nI_1, nI_add, pk_mul, Nat.add_assoc, Int32.add_zero, Int32.sub_zero, Int32.or_zero, Int32.and_neg_one, va_up_s, va_up_n, upd_s, oa_up2, ite_self, if_true, if_false, oa_10, oa_01, oa_neg4, oa_ifno, oa_l2, oa_l3, oa_l4, oa_l5, oa_l6, oa_l7, oa_l8, oa_l9, oa_l10, oa_l12, oa_l15, oa_l16, oa_l20, oa_l32, oa_l40, oa_l42, oa_l48, oa_l64, oa_l90, oa_l96, oa_l97, oa_l98, oa_l99, oa_l100, oa_l120, oa_l360, oa_l450, oa_l457, oa_l458, oa_l480, oa_l528]
      simp only [oa_bs, oa_bi_if0, f_within, if_true]
      rw [hm]
      cases hz : oa_wi z (if w = 5 then 1 else 0) (if w = 0 ∨ w = 5 then 4 else 20)
      · exact ⟨_, _, _, rfl, rfl, h0⟩
      · unfold f_X5_putTrait
        simp (disch := (first | omega | assumption | decide)) only [ct_w cv.1, oa_wr_nI, oa_ut, oa_bs, oa_lt, oa_ile, oa_inle, oa_ilt, oa_inlt, oa_ieq, oa_ineq, oa_rd_0, oa_rd_1, oa_wr_0, oa_wr_1, oa_rdL_nI, oa_wrL_nI, oa_bi_if0, oa_bi_if1, oa_zc_bi, oa_if_b0, oa_if_b1, nI_1, nI_add, pk_mul, Nat.add_assoc, Int32.add_zero, Int32.sub_zero, Int32.or_zero, Int32.and_neg_one, ite_self, if_true, if_false, oa_10, oa_01, oa_neg4, oa_ifno, oa_l2, oa_l3, oa_l4, oa_l5, oa_l6, oa_l7, oa_l8, oa_l9, oa_l10, oa_l12, oa_l15, oa_l16, oa_l20, oa_l32, oa_l40, oa_l42, oa_l48, oa_l64, oa_l90, oa_l96, oa_l97, oa_l98, oa_l99, oa_l100, oa_l120, oa_l360, oa_l450, oa_l457, oa_l458, oa_l480, oa_l528]
        refine ⟨_, _, _, rfl, rfl, ?_⟩
        rw [oa_ms_upd (M := M)]
        refine Rel_main h0 (fun k hk => upd_n _ _ (by omega)) (fun n' L' _ hv => ?_)
        obtain ⟨⟨⟨a1, a2, a3, a4⟩, ⟨h2, h3⟩, h4, h5, h6', h7⟩, g2, g3, g4⟩ := hv
        have hn' : p < n' := by
          have e : nI n' = nI n := a2.symm.trans cv.1.2.1
          have := (nI_eq (by omega) (by omega)).mp e
          omega
        have ea : ∀ r, r < 6 → ∀ q, q < 7 → an (upd (M 1) (8 * p + w) z) r q = an (M 1) r q := by
          intro r hr q hq
          unfold an
          rw [upd_n _ _ (by omega)]
        refine ⟨⟨⟨a1, a2, a3, fun w' hw' p' hp' => ?_⟩, ⟨fun r hr => ?_, fun r hr q hq ha => ?_⟩, fun k hk => ?_, ?_, ?_, ?_⟩, fun r hr q hq => ?_, ?_, fun p' hp' => ?_⟩
        · show upd (B 0 1) (w * 6 + p) z (w' * 6 + p') = _
          by_cases e : p' = p ∧ w' = w
          · rw [e.1, e.2, upd_s, upd_s]
          · rw [upd_n _ _ (by omega), upd_n _ _ (by omega)]; exact a4 w' hw' p' hp'
        · exact (h2 r hr).trans (oa_mk_cong fun k hk => (ea r hr k hk).symm)
        · rw [ea r hr q (by omega)] at ha
          rw [upd_n _ _ (by omega)]; exact h3 r hr q hq ha
        · rw [upd_n _ _ (by omega)]; exact h4 k hk
        · rw [upd_n _ _ (by omega)]; exact h5
        · rw [upd_n _ _ (by omega)]; exact h6'
        · rw [upd_n _ _ (by omega)]; exact h7
        · obtain ⟨a, b1, b2⟩ := g2 r hr q hq
          exact ⟨a, by rw [upd_n _ _ (by omega), b1], b2⟩
        · rw [upd_n _ _ (by omega)]; exact g3
        · obtain ⟨k1, k2, k3⟩ := g4 p' hp'
          by_cases ep : p' = p
          · subst ep
            refine ⟨?_, fun w' w1 w2 => ?_, ?_⟩
            · by_cases e : w = 0
              · subst e
                obtain ⟨j, _, j2, rfl⟩ := oa_wi_t (a := 0) (b := 4) (by omega) hz (by omega)
                exact ⟨j, j2, upd_s _ _ _⟩
              · rw [upd_n _ _ (by omega)]; exact k1
            · by_cases e : w' = w
              · subst e
                rw [if_neg (by omega), if_neg (by omega)] at hz
                obtain ⟨j, _, j2, rfl⟩ := oa_wi_t (a := 0) (b := 20) (by omega) hz (by omega)
                exact ⟨j, j2, upd_s _ _ _⟩
              · rw [upd_n _ _ (by omega)]; exact k2 w' w1 w2
            · by_cases e : w = 5
              · subst e
                obtain ⟨j, j1, j2, rfl⟩ := oa_wi_t (a := 1) (b := 4) (by omega) hz (by omega)
                exact ⟨j, j1, j2, upd_s _ _ _⟩
              · rw [upd_n _ _ (by omega)]; exact k3
          · refine ⟨?_, fun w' w1 w2 => ?_, ?_⟩
            · rw [upd_n _ _ (by omega)]; exact k1
            · rw [upd_n _ _ (by omega)]; exact k2 w' w1 w2
            · rw [upd_n _ _ (by omega)]; exact k3
theorem TB_TR {n : Nat} {P P' : oa_P} (h6 : n ≤ 6) (t : TR P P') (h : TB n P) : TB n P' := by
  intro p hp
  obtain ⟨k1, k2, k3⟩ := h p hp
  refine ⟨?_, fun w w1 w2 => ?_, ?_⟩
  · rw [t _ (by omega)]; exact k1
  · rw [t _ (by omega)]; exact k2 w w1 w2
  · rw [t _ (by omega)]; exact k3
/-- begin / pointing -/
theorem c_begin {n L : Nat} {V : oa_I2} (hL : RR (M 2) L) (hV : RV n L (M 2) (M 1) V) (x y : Int32) : ∃ a V' P', f_X5_begin V x y = some (a, V') ∧ f_X7_pointing M K x y = some (a, oa_ms M 0 P' (M 0 9)) ∧ RV n L (M 2) P' V' ∧ ((a = -1 ∨ a = -2 ∨ a = -3) ∧ P' = M 1 ∧ V' = V ∨ ∃ r p, x = nI r ∧ y = nI p ∧ r < n ∧ (p < n ∨ p = 6) ∧ p ≠ r ∧ M 1 (48 + (7 * r + p)) = 0 ∧ P' = upd (M 1) (48 + (7 * r + p)) 1 ∧ a = oa_cn (an P' r) 7) := by
  have hV0 := hV
  obtain ⟨cv, hp, h99, tb⟩ := hV
  have h6 := cv.1.1
  unfold f_X5_begin f_X7_pointing
  simp (disch := (first | omega | assumption | decide)) only [ct_canMeet cv.1, md_isWhom h99, oa_ut, oa_bs, oa_lt, oa_ile, oa_inle, oa_ilt, oa_inlt, oa_ieq, oa_ineq, oa_rd_0, oa_rd_1, oa_wr_0, oa_wr_1, oa_rdL_nI, oa_wrL_nI, oa_bi_if0, oa_bi_if1, oa_zc_bi, oa_if_b0, oa_if_b1, nI_1, nI_add, pk_mul, Nat.add_assoc, Int32.add_zero, Int32.sub_zero, Int32.or_zero, Int32.and_neg_one, ite_self, if_true, if_false, oa_10, oa_01, oa_neg4, oa_ifno, oa_l2, oa_l3, oa_l4, oa_l5, oa_l6, oa_l7, oa_l8, oa_l9, oa_l10, oa_l12, oa_l15, oa_l16, oa_l20, oa_l32, oa_l40, oa_l42, oa_l48, oa_l64, oa_l90, oa_l96, oa_l97, oa_l98, oa_l99, oa_l100, oa_l120, oa_l360, oa_l450, oa_l457, oa_l458, oa_l480, oa_l528]
  cases hx : (oa_wi x 0 (nI n - 1) && (decide (y = nI 6) || (oa_wi y 0 (nI n - 1) && !decide (x = y))))
  · exact ⟨-1, V, M 1, rfl, by rw [oa_ms_M]; rfl, hV0, Or.inl ⟨Or.inl rfl, rfl, rfl⟩⟩
  · obtain ⟨r, p, hr, hp', hne, rfl, rfl⟩ := oa_whom h6 hx
    simp (disch := (first | omega | assumption | decide)) only [cv_isAngry cv, md_age0, cv_isFree cv, md_isFree0, oa_ut, oa_bs, oa_lt, oa_ile, oa_inle, oa_ilt, oa_inlt, oa_ieq, oa_ineq, oa_rd_0, oa_rd_1, oa_wr_0, oa_wr_1, oa_rdL_nI, oa_wrL_nI, oa_bi_if0, oa_bi_if1, oa_zc_bi, oa_if_b0, oa_if_b1, nI_1, nI_add, pk_mul, Nat.add_assoc, Int32.add_zero, Int32.sub_zero, Int32.or_zero, Int32.and_neg_one, ite_self, if_true, if_false, oa_10, oa_01, oa_neg4, oa_ifno, oa_l2, oa_l3, oa_l4, oa_l5, oa_l6, oa_l7, oa_l8, oa_l9, oa_l10, oa_l12, oa_l15, oa_l16, oa_l20, oa_l32, oa_l40, oa_l42, oa_l48, oa_l64, oa_l90, oa_l96, oa_l97, oa_l98, oa_l99, oa_l100, oa_l120, oa_l360, oa_l450, oa_l457, oa_l458, oa_l480, oa_l528]
    obtain ⟨a, a1, a2, a3, a4⟩ := hp r (by omega) p (by omega)
    have hL9 := hL.1.2.2
    rcases a with _ | a
    · have hn : an (M 1) r p = false := by unfold an; rw [a1]; decide
      rw [hn, a1, if_pos (show nI 0 ≤ 0 by decide)]
      cases hf : fr (M 2) (M 1) r
      · exact ⟨-3, V, M 1, rfl, by rw [oa_ms_M]; rfl, hV0, Or.inl ⟨Or.inr (Or.inr rfl), rfl, rfl⟩⟩
      · obtain ⟨V', e1, e2, e3⟩ := cv_start (r := r) (p := p) cv (by omega) (by omega)
        simp (disch := (first | omega | assumption | decide)) only [e1, cv_angersOf e2, oa_wr_nI, oa_ms_upd, md_angers0, oa_ms0, oa_ut, oa_bs, oa_lt, oa_ile, oa_inle, oa_ilt, oa_inlt, oa_ieq, oa_ineq, oa_rd_0, oa_rd_1, oa_wr_0, oa_wr_1, oa_rdL_nI, oa_wrL_nI, oa_bi_if0, oa_bi_if1, oa_zc_bi, oa_if_b0, oa_if_b1, nI_1, nI_add, pk_mul, Nat.add_assoc, Int32.add_zero, Int32.sub_zero, Int32.or_zero, Int32.and_neg_one, ite_self, if_true, if_false, oa_10, oa_01, oa_neg4, oa_ifno, oa_l2, oa_l3, oa_l4, oa_l5, oa_l6, oa_l7, oa_l8, oa_l9, oa_l10, oa_l12, oa_l15, oa_l16, oa_l20, oa_l32, oa_l40, oa_l42, oa_l48, oa_l64, oa_l90, oa_l96, oa_l97, oa_l98, oa_l99, oa_l100, oa_l120, oa_l360, oa_l450, oa_l457, oa_l458, oa_l480, oa_l528]
        refine ⟨_, V', _, rfl, rfl, ⟨e2, PW_set (x := 1) hp hr hp' hL.1.2.1 (by omega) (by omega), by rw [upd_n _ _ (by omega)]; exact h99, TB_TR h6 (TR_upd (TR_refl _) (by omega) (by omega)) tb⟩, Or.inr ⟨r, p, rfl, rfl, hr, hp', hne, a1, rfl, rfl⟩⟩
    · have hpos : (0 : Int32) < nI (a + 1) := nI_lt (a := 0) (by omega) (by omega)
      have hn : an (M 1) r p = true := by unfold an; rw [a1]; exact decide_eq_true hpos
      rw [hn, a1, if_neg (Int32.not_le.mpr hpos)]
      exact ⟨-2, V, M 1, rfl, by rw [oa_ms_M]; rfl, hV0, Or.inl ⟨Or.inr (Or.inl rfl), rfl, rfl⟩⟩
theorem RV_same {n n' L L' : Nat} {R P : oa_P} {V : oa_I2} (hR : RR R L) (hR' : RR R L') (h : RV n L R P V) (h' : RV n' L' R P V) : n = n' ∧ L = L' := by
  have e : nI n = nI n' := h.2.2.1.symm.trans h'.2.2.1
  have e2 : nI L = nI L' := hR.1.1.symm.trans hR'.1.1
  have a1 := h.1.1.1
  have a2 := h'.1.1.1
  have b1 := hR.1.2.2
  have b2 := hR'.1.2.2
  exact ⟨(nI_eq (by omega) (by omega)).mp e, (nI_eq (by omega) (by omega)).mp e2⟩
theorem Rel_main' {n L : Nat} {V' : oa_I2} {P' : oa_P} {w : Int32} (h : Rel B M) (hR : RR (M 2) L) (h0 : RV n L (M 2) (M 1) (B 0)) (t : ∀ k, 100 ≤ k → P' k = M 1 k) (hv : RV n L (M 2) P' V') : Rel (va_up B 0 V') (oa_ms M 0 P' w) :=
  Rel_main h t fun n' L' hR' h' => by
    obtain ⟨rfl, rfl⟩ := RV_same hR hR' h0 h'
    exact hv
theorem c_point (h : Rel B M) (x y : Int32) : ∃ a B' M', f_X6_point B J x y = some (a, B') ∧ f_X7_point M K x y = some (a, M') ∧ Rel B' M' := by
  have h0 := h
  obtain ⟨n, L, hR, hV, hI, hT, hF, hS, hC⟩ := h
  obtain ⟨a, V', P', e1, e2, e3, e4⟩ := c_begin (K := K) hR hV x y
  unfold f_X6_point f_X7_point
  simp (disch := (first | omega | assumption | decide)) only [e1, e2, oa_ut, oa_bs, oa_lt, oa_ile, oa_inle, oa_ilt, oa_inlt, oa_ieq, oa_ineq, oa_rd_0, oa_rd_1, oa_wr_0, oa_wr_1, oa_rdL_nI, oa_wrL_nI, oa_bi_if0, oa_bi_if1, oa_zc_bi, oa_if_b0, oa_if_b1, nI_1, nI_add, pk_mul, Nat.add_assoc, Int32.add_zero, Int32.sub_zero, Int32.or_zero, Int32.and_neg_one, ite_self, if_true, if_false, oa_10, oa_01, oa_neg4, oa_ifno, oa_l2, oa_l3, oa_l4, oa_l5, oa_l6, oa_l7, oa_l8, oa_l9, oa_l10, oa_l12, oa_l15, oa_l16, oa_l20, oa_l32, oa_l40, oa_l42, oa_l48, oa_l64, oa_l90, oa_l96, oa_l97, oa_l98, oa_l99, oa_l100, oa_l120, oa_l360, oa_l450, oa_l457, oa_l458, oa_l480, oa_l528]
  refine ⟨_, _, _, rfl, rfl, Rel_main' h0 hR hV ?_ e3⟩
  intro k hk
  rcases e4 with ⟨_, e, _⟩ | ⟨r, p, _, _, hr, hp, _, _, e, _⟩
  · rw [e]
  · have := hV.1.1.1
    rw [e, upd_n _ _ (by omega)]
theorem c_rest (h : Rel B M) (x y : Int32) : ∃ a B' M', f_X6_rest B J x y = some (a, B') ∧ f_X7_rest M K x y = some (a, M') ∧ Rel B' M' := by
  have h0 := h
  obtain ⟨n, L, hR, hV, hI, hT, hF, hS, hC⟩ := h
  have hV0 := hV
  obtain ⟨cv, hp, h99, tb⟩ := hV
  have h6 := cv.1.1
  unfold f_X6_rest f_X7_rest f_X7_resting
  simp (disch := (first | omega | assumption | decide)) only [ct_canMeet cv.1, md_isWhom h99, oa_ut, oa_bs, oa_lt, oa_ile, oa_inle, oa_ilt, oa_inlt, oa_ieq, oa_ineq, oa_rd_0, oa_rd_1, oa_wr_0, oa_wr_1, oa_rdL_nI, oa_wrL_nI, oa_bi_if0, oa_bi_if1, oa_zc_bi, oa_if_b0, oa_if_b1, nI_1, nI_add, pk_mul, Nat.add_assoc, Int32.add_zero, Int32.sub_zero, Int32.or_zero, Int32.and_neg_one, ite_self, if_true, if_false, oa_10, oa_01, oa_neg4, oa_ifno, oa_l2, oa_l3, oa_l4, oa_l5, oa_l6, oa_l7, oa_l8, oa_l9, oa_l10, oa_l12, oa_l15, oa_l16, oa_l20, oa_l32, oa_l40, oa_l42, oa_l48, oa_l64, oa_l90, oa_l96, oa_l97, oa_l98, oa_l99, oa_l100, oa_l120, oa_l360, oa_l450, oa_l457, oa_l458, oa_l480, oa_l528]
  cases hx : (oa_wi x 0 (nI n - 1) && (decide (y = nI 6) || (oa_wi y 0 (nI n - 1) && !decide (x = y))))
  · exact ⟨_, _, _, rfl, rfl, h0⟩
  · obtain ⟨r, p, hr, hp', hne, rfl, rfl⟩ := oa_whom h6 hx
    simp (disch := (first | omega | assumption | decide)) only [cv_isAngry cv, md_age0, oa_ut, oa_bs, oa_lt, oa_ile, oa_inle, oa_ilt, oa_inlt, oa_ieq, oa_ineq, oa_rd_0, oa_rd_1, oa_wr_0, oa_wr_1, oa_rdL_nI, oa_wrL_nI, oa_bi_if0, oa_bi_if1, oa_zc_bi, oa_if_b0, oa_if_b1, nI_1, nI_add, pk_mul, Nat.add_assoc, Int32.add_zero, Int32.sub_zero, Int32.or_zero, Int32.and_neg_one, ite_self, if_true, if_false, oa_10, oa_01, oa_neg4, oa_ifno, oa_l2, oa_l3, oa_l4, oa_l5, oa_l6, oa_l7, oa_l8, oa_l9, oa_l10, oa_l12, oa_l15, oa_l16, oa_l20, oa_l32, oa_l40, oa_l42, oa_l48, oa_l64, oa_l90, oa_l96, oa_l97, oa_l98, oa_l99, oa_l100, oa_l120, oa_l360, oa_l450, oa_l457, oa_l458, oa_l480, oa_l528]
    obtain ⟨a, a1, a2, a3, a4⟩ := hp r (by omega) p (by omega)
    have hL9 := hR.1.2.2
    rcases a with _ | a
    · have hn : an (M 1) r p = false := by unfold an; rw [a1]; decide
      rw [hn, a1, if_pos (show nI 0 = 0 from rfl)]
      exact ⟨_, _, _, rfl, rfl, h0⟩
    · have hpos : (0 : Int32) < nI (a + 1) := nI_lt (a := 0) (by omega) (by omega)
      have hn : an (M 1) r p = true := by unfold an; rw [a1]; exact decide_eq_true hpos
      obtain ⟨V', e1, e2, e3, _⟩ := cv_stop (r := r) (p := p) cv (by omega) (by omega)
      simp (disch := (first | omega | assumption | decide)) only [hn, a1, if_neg (nI_ne0 (show 0 < a + 1 by omega) (show a + 1 < 2 ^ 31 by omega)), e1, va_up_s, cv_angersOf e2, oa_wr_nI, oa_ms_upd, md_angers0, oa_ms0, oa_ut, oa_bs, oa_lt, oa_ile, oa_inle, oa_ilt, oa_inlt, oa_ieq, oa_ineq, oa_rd_0, oa_rd_1, oa_wr_0, oa_wr_1, oa_rdL_nI, oa_wrL_nI, oa_bi_if0, oa_bi_if1, oa_zc_bi, oa_if_b0, oa_if_b1, nI_1, nI_add, pk_mul, Nat.add_assoc, Int32.add_zero, Int32.sub_zero, Int32.or_zero, Int32.and_neg_one, ite_self, if_true, if_false, oa_10, oa_01, oa_neg4, oa_ifno, oa_l2, oa_l3, oa_l4, oa_l5, oa_l6, oa_l7, oa_l8, oa_l9, oa_l10, oa_l12, oa_l15, oa_l16, oa_l20, oa_l32, oa_l40, oa_l42, oa_l48, oa_l64, oa_l90, oa_l96, oa_l97, oa_l98, oa_l99, oa_l100, oa_l120, oa_l360, oa_l450, oa_l457, oa_l458, oa_l480, oa_l528]
      refine ⟨_, _, _, rfl, rfl, Rel_main' h0 hR hV0 (fun k hk => upd_n _ _ (by omega)) ⟨e2, PW_set (x := 0) hp hr hp' (by omega) (by omega) (by omega), by rw [upd_n _ _ (by omega)]; exact h99, TB_TR h6 (TR_upd (TR_refl _) (by omega) (by omega)) tb⟩⟩
theorem c_wrong (h : Rel B M) (x y : Int32) : ∃ a B' M', f_X6_wrong B J x y = some (a, B') ∧ f_X7_wrong M K x y = some (a, M') ∧ Rel B' M' := by
  have h0 := h
  obtain ⟨n, L, hR, hV, hI, hT, hF, hS, hC⟩ := h
  have hV0 := hV
  obtain ⟨cv, hp, h99, tb⟩ := hV
  have h6 := cv.1.1
  unfold f_X6_wrong f_X7_wrong
  simp (disch := (first | omega | assumption | decide)) only [ct_hasTwo cv.1, md_isWrong h99, oa_ut, oa_bs, oa_lt, oa_ile, oa_inle, oa_ilt, oa_inlt, oa_ieq, oa_ineq, oa_rd_0, oa_rd_1, oa_wr_0, oa_wr_1, oa_rdL_nI, oa_wrL_nI, oa_bi_if0, oa_bi_if1, oa_zc_bi, oa_if_b0, oa_if_b1, nI_1, nI_add, pk_mul, Nat.add_assoc, Int32.add_zero, Int32.sub_zero, Int32.or_zero, Int32.and_neg_one, ite_self, if_true, if_false, oa_10, oa_01, oa_neg4, oa_ifno, oa_l2, oa_l3, oa_l4, oa_l5, oa_l6, oa_l7, oa_l8, oa_l9, oa_l10, oa_l12, oa_l15, oa_l16, oa_l20, oa_l32, oa_l40, oa_l42, oa_l48, oa_l64, oa_l90, oa_l96, oa_l97, oa_l98, oa_l99, oa_l100, oa_l120, oa_l360, oa_l450, oa_l457, oa_l458, oa_l480, oa_l528]
  cases hx : (oa_wi x 0 (nI n - 1) && oa_wi y 0 (nI n - 1) && !decide (x = y))
  · exact ⟨_, _, _, rfl, rfl, h0⟩
  · obtain ⟨p, q, hp', hq', _, rfl, rfl⟩ := oa_two h6 hx
    obtain ⟨V', e1, e2, e3⟩ := cv_doWrong cv hp' hq'
    simp (disch := (first | omega | assumption | decide)) only [cv_able cv, cv_val cv, e1, md_freeOnes0 h99, md_worthBy0 h99, val_abl h6, md_wrongs0 h99, oa_ut, oa_bs, oa_lt, oa_ile, oa_inle, oa_ilt, oa_inlt, oa_ieq, oa_ineq, oa_rd_0, oa_rd_1, oa_wr_0, oa_wr_1, oa_rdL_nI, oa_wrL_nI, oa_bi_if0, oa_bi_if1, oa_zc_bi, oa_if_b0, oa_if_b1, nI_1, nI_add, pk_mul, Nat.add_assoc, Int32.add_zero, Int32.sub_zero, Int32.or_zero, Int32.and_neg_one, ite_self, if_true, if_false, oa_10, oa_01, oa_neg4, oa_ifno, oa_l2, oa_l3, oa_l4, oa_l5, oa_l6, oa_l7, oa_l8, oa_l9, oa_l10, oa_l12, oa_l15, oa_l16, oa_l20, oa_l32, oa_l40, oa_l42, oa_l48, oa_l64, oa_l90, oa_l96, oa_l97, oa_l98, oa_l99, oa_l100, oa_l120, oa_l360, oa_l450, oa_l457, oa_l458, oa_l480, oa_l528]
    have t : TR (M 1) (pw (M 2) (M 1) n p q) := pw_TR h6 (by omega) (by omega)
    refine ⟨_, _, _, rfl, rfl, Rel_main' h0 hR hV0 (fun k hk => t k (by omega)) ⟨e2, PW_pw h6 hR.1.2.1 hp' hq' hp, (t 99 (by omega)).trans h99, TB_TR h6 t tb⟩⟩
theorem c_go (h : Rel B M) (x : Int32) : ∃ a B' M', f_X6_go B J x = some (a, B') ∧ f_X7_go M K x = some (a, M') ∧ Rel B' M' := by
  have h0 := h
  obtain ⟨n, L, hR, hV, hI, hT, hF, hS, hC⟩ := h
  have hV0 := hV
  obtain ⟨cv, hp, h99, tb⟩ := hV
  have h6 := cv.1.1
  unfold f_X6_go f_X7_go
  simp (disch := (first | omega | assumption | decide)) only [f_within, f_in_0_1, f_in_0_2, f_in_0_3, f_in_0_4, f_in_0_6, f_in_0_7, f_in_0_12, f_in_0_20, f_in_0_99, f_in_1_4, f_in_1_99, oa_ut, oa_bs, oa_lt, oa_ile, oa_inle, oa_ilt, oa_inlt, oa_ieq, oa_ineq, oa_rd_0, oa_rd_1, oa_wr_0, oa_wr_1, oa_rdL_nI, oa_wrL_nI, oa_bi_if0, oa_bi_if1, oa_zc_bi, oa_if_b0, oa_if_b1, nI_1, nI_add, pk_mul, Nat.add_assoc, Int32.add_zero, Int32.sub_zero, Int32.or_zero, Int32.and_neg_one, ite_self, if_true, if_false, oa_10, oa_01, oa_neg4, oa_ifno, oa_l2, oa_l3, oa_l4, oa_l5, oa_l6, oa_l7, oa_l8, oa_l9, oa_l10, oa_l12, oa_l15, oa_l16, oa_l20, oa_l32, oa_l40, oa_l42, oa_l48, oa_l64, oa_l90, oa_l96, oa_l97, oa_l98, oa_l99, oa_l100, oa_l120, oa_l360, oa_l450, oa_l457, oa_l458, oa_l480, oa_l528]
  cases hx : oa_wi x 1 (nI 99)
  · exact ⟨_, _, _, rfl, rfl, h0⟩
  · obtain ⟨m, m1, m2, rfl⟩ := oa_wi_t (a := 1) (by omega) hx (by omega)
    obtain ⟨V', e1, e2, e3⟩ := cv_passWeeks hR.1 m2 cv hp
    have t : ∀ i, TR (M 1) (wks (M 2) n i (M 1)).1 := wks_TR h6
    have hm : l_X7_go_24 K (nI m) (M 1 97) oa_fu M 0 = some ((wks (M 2) n m (M 1)).1 97 - M 1 97, if m = 0 then M else oa_ms M 0 (wks (M 2) n m (M 1)).1 (wks (M 2) n m (M 1)).2) := by
      unfold l_X7_go_24
      refine oa_for (fun i => (if i = 0 then M else oa_ms M 0 (wks (M 2) n i (M 1)).1 (wks (M 2) n i (M 1)).2, nI i)) m rfl ?_ ?_ oa_fu (by rw [oa_fu_eq]; omega)
      · intro i hi k
        rw [if_neg (show ¬ i + 1 = 0 by omega)]
        have hk : f_X7_week (if i = 0 then M else oa_ms M 0 (wks (M 2) n i (M 1)).1 (wks (M 2) n i (M 1)).2) K 0 = some (oa_ms M 0 (wks (M 2) n (i + 1) (M 1)).1 (wks (M 2) n (i + 1) (M 1)).2) := by
          by_cases e : i = 0
          · subst e
            rw [if_pos rfl]
            have := md_week0 (M := M) (K := K) (P := M 1) (w := M 0 9) h99 h6
            rw [oa_ms_M] at this
            exact this
          · rw [if_neg e]
            exact md_week0 ((t i 99 (by omega)).trans h99) h6
        simp (disch := (first | omega | assumption | decide)) only [b_X7_go_24, hk, oa_ut, oa_bs, oa_lt, oa_ile, oa_inle, oa_ilt, oa_inlt, oa_ieq, oa_ineq, oa_rd_0, oa_rd_1, oa_wr_0, oa_wr_1, oa_rdL_nI, oa_wrL_nI, oa_bi_if0, oa_bi_if1, oa_zc_bi, oa_if_b0, oa_if_b1, nI_1, nI_add, pk_mul, Nat.add_assoc, Int32.add_zero, Int32.sub_zero, Int32.or_zero, Int32.and_neg_one, ite_self, if_true, if_false, oa_10, oa_01, oa_neg4, oa_ifno, oa_l2, oa_l3, oa_l4, oa_l5, oa_l6, oa_l7, oa_l8, oa_l9, oa_l10, oa_l12, oa_l15, oa_l16, oa_l20, oa_l32, oa_l40, oa_l42, oa_l48, oa_l64, oa_l90, oa_l96, oa_l97, oa_l98, oa_l99, oa_l100, oa_l120, oa_l360, oa_l450, oa_l457, oa_l458, oa_l480, oa_l528]
      · intro k
        have hr : (if m = 0 then M else oa_ms M 0 (wks (M 2) n m (M 1)).1 (wks (M 2) n m (M 1)).2) 1 97 = (wks (M 2) n m (M 1)).1 97 := by
          rw [if_neg (by omega)]; rfl
        simp (disch := (first | omega | assumption | decide)) only [b_X7_go_24, oa_rd_nI, hr, oa_ut, oa_bs, oa_lt, oa_ile, oa_inle, oa_ilt, oa_inlt, oa_ieq, oa_ineq, oa_rd_0, oa_rd_1, oa_wr_0, oa_wr_1, oa_rdL_nI, oa_wrL_nI, oa_bi_if0, oa_bi_if1, oa_zc_bi, oa_if_b0, oa_if_b1, nI_1, nI_add, pk_mul, Nat.add_assoc, Int32.add_zero, Int32.sub_zero, Int32.or_zero, Int32.and_neg_one, ite_self, if_true, if_false, oa_10, oa_01, oa_neg4, oa_ifno, oa_l2, oa_l3, oa_l4, oa_l5, oa_l6, oa_l7, oa_l8, oa_l9, oa_l10, oa_l12, oa_l15, oa_l16, oa_l20, oa_l32, oa_l40, oa_l42, oa_l48, oa_l64, oa_l90, oa_l96, oa_l97, oa_l98, oa_l99, oa_l100, oa_l120, oa_l360, oa_l450, oa_l457, oa_l458, oa_l480, oa_l528]
    rw [if_neg (by omega)] at hm
    simp (disch := (first | omega | assumption | decide)) only [e1, oa_rd_nI, hm, oa_ut, oa_bs, oa_lt, oa_ile, oa_inle, oa_ilt, oa_inlt, oa_ieq, oa_ineq, oa_rd_0, oa_rd_1, oa_wr_0, oa_wr_1, oa_rdL_nI, oa_wrL_nI, oa_bi_if0, oa_bi_if1, oa_zc_bi, oa_if_b0, oa_if_b1, nI_1, nI_add, pk_mul, Nat.add_assoc, Int32.add_zero, Int32.sub_zero, Int32.or_zero, Int32.and_neg_one, ite_self, if_true, if_false, oa_10, oa_01, oa_neg4, oa_ifno, oa_l2, oa_l3, oa_l4, oa_l5, oa_l6, oa_l7, oa_l8, oa_l9, oa_l10, oa_l12, oa_l15, oa_l16, oa_l20, oa_l32, oa_l40, oa_l42, oa_l48, oa_l64, oa_l90, oa_l96, oa_l97, oa_l98, oa_l99, oa_l100, oa_l120, oa_l360, oa_l450, oa_l457, oa_l458, oa_l480, oa_l528]
    have ea : V' 5 2 - B 0 5 2 = (wks (M 2) n m (M 1)).1 97 - M 1 97 := by
      rw [e2.2.2.2.2.1, cv.2.2.2.2.1, Int32.add_zero, Int32.add_zero]
    refine ⟨_, _, _, rfl, ?_, Rel_main' (w := (wks (M 2) n m (M 1)).2) h0 hR hV0 (fun k hk => t m k (by omega)) ⟨e2, PW_wks hR.1 h6 hp m, (t m 99 (by omega)).trans h99, TB_TR h6 (t m) tb⟩⟩
    rw [ea]
end C2
