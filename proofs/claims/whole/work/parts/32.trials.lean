/-! trials, images -/
theorem oa_for2 {α β γ δ : Type} {F : (α → Option β) → α → Option β} {H : (γ → Option δ) → γ → Option δ} (Q : Option β → Option δ → Prop) (Rl : Nat → α → γ → Prop) (N : Nat) {s0 : α} {t0 : γ} (h0 : Rl 0 s0 t0) (hs : ∀ i, i < N → ∀ s t, Rl i s t → ∀ k l, (∃ s' t', Rl (i + 1) s' t' ∧ F k s = k s' ∧ H l t = l t') ∨ Q (F k s) (H l t)) (he : ∀ s t, Rl N s t → ∀ k l, Q (F k s) (H l t)) : ∀ fuel fuel', N < fuel → N < fuel' → Q (oa_fix F fuel s0) (oa_fix H fuel' t0) := by
  have key : ∀ j i fuel fuel' s t, i + j = N → j < fuel → j < fuel' → Rl i s t → Q (oa_fix F fuel s) (oa_fix H fuel' t) := by
    intro j
    induction j with
    | zero =>
      intro i fuel fuel' s t h1 h2 h2' h3
      obtain ⟨f, rfl⟩ : ∃ f, fuel = f + 1 := ⟨fuel - 1, by omega⟩
      obtain ⟨f', rfl⟩ : ∃ f, fuel' = f + 1 := ⟨fuel' - 1, by omega⟩
      have : i = N := by omega
      subst this
      exact he s t h3 _ _
    | succ j ih =>
      intro i fuel fuel' s t h1 h2 h2' h3
      obtain ⟨f, rfl⟩ : ∃ f, fuel = f + 1 := ⟨fuel - 1, by omega⟩
      obtain ⟨f', rfl⟩ : ∃ f, fuel' = f + 1 := ⟨fuel' - 1, by omega⟩
      show Q (F (oa_fix F f) s) (H (oa_fix H f') t)
      rcases hs i (by omega) s t h3 (oa_fix F f) (oa_fix H f') with ⟨s', t', h4, h5, h6⟩ | h4
      · rw [h5, h6]; exact ih (i + 1) f f' s' t' (by omega) (by omega) (by omega) h4
      · exact h4
  intro fuel fuel' h h'
  exact key N 0 fuel fuel' s0 t0 (by omega) h h' h0
section C3
variable {B : oa_I3} {J : oa_J2} {M : oa_I2} {K : oa_J2}
theorem cv_trial {n : Nat} {R : oa_P} {V U : oa_I2} (cv : CV n R (fun _ => 0) (M 1) V) : CV n R (gz (M 1)) (T0 M) (oa_cpy U V) :=
  CV_ext (fun _ hk => T0_at hk) (cv_zero (cv_cpy cv))
theorem PW_trial {n L : Nat} (h : PW n L (M 1)) : PW n L (T0 M) :=
  PW_ext (fun k hk => by rw [T0_at (by omega)]; unfold pz; rw [if_neg (by omega)]) h
theorem oa_ms_rd' {a j k : Nat} {P : oa_P} {w : Int32} (e : j = a + k) (h : j < 600) : oa_rd (oa_ms M a P w 1) 600 (nI j) = some (P k) := by
  subst e; exact oa_ms_rd h
theorem va_up_up {α : Type} (f : Nat → α) (k : Nat) (x y : α) : va_up (va_up f k x) k y = va_up f k y := oa_up2 f k x y
theorem oa_r3 (a b c : Int32) : a - b + c = c + a - b := by rw [Int32.add_comm c a, oa_r2]
theorem run_c {n : Nat} (h6 : n ≤ 6) (x : Int32) : (oa_wi x (nI 10) (nI 15) && oa_wi (x - nI 10) 0 (nI n - 1)) = oa_wi x (nI 10) (nI (9 + n)) := by
  cases h : oa_wi x (nI 10) (nI (9 + n))
  · cases h1 : oa_wi x (nI 10) (nI 15)
    · rfl
    · obtain ⟨w, w1, w2, rfl⟩ := oa_wi_t (by omega) h1 (by omega)
      rw [pk_sub w1]
      cases h2 : oa_wi (nI (w - 10)) 0 (nI n - 1)
      · rfl
      · obtain ⟨p, p1, p2⟩ := oa_has_t h6 h2
        have := (nI_eq (by omega) (by omega)).mp p2
        rw [oa_wi_n (by omega) (by omega) (by omega)] at h
        cases h
  · obtain ⟨w, w1, w2, rfl⟩ := oa_wi_t (by omega) h (by omega)
    rw [pk_sub w1, oa_wi_n (by omega) (by omega) (by omega), oa_has_n h6 (by omega)]
    rfl
theorem f_in_v (x : Int32) (k : Nat) : f_X7_in x.toInt64 10 (nI k).toInt64 = some (oa_bi (oa_wi x (nI 10) (nI k))) := f_in x 10 (nI k)
theorem c_run (h : Rel B M) (x y : Int32) : ∃ a B' M', f_X6_run B J x y = some (a, B') ∧ f_X7_run M K x y = some (a, M') ∧ Rel B' M' := by
  have h0 := h
  obtain ⟨n, L, hR, ⟨cv, hp, h99, tb⟩, hI, hT, hF, hS, hC⟩ := h
  have h6 := cv.1.1
  have key : ∀ m, m ≤ 99 → (∃ w : Nat, y = nI w ∧ (w ≤ 3 ∨ 10 ≤ w ∧ w ≤ 9 + n)) → ∃ a B' M', b_X6_run_57 J (nI m) y B = some (a, B') ∧ b_X7_run_46 K (nI m) y M = some (a, M') ∧ Rel B' M' := by
    rintro m hm ⟨w, rfl, hw⟩
    obtain ⟨V', e1, e2, e3⟩ := cv_passWeeks (m := m) hR.1 hm (cv_trial (U := B 1) cv) (PW_trial hp)
    unfold b_X6_run_57 b_X7_run_46
    simp only [f_copyOf, md_tries h99 h6 hm, oa_bs, oa_lt, va_up_s, e1, oa_ut, oa_up2]
    generalize hW : wks (M 2) n m (T0 M) = W at e2 e3
    have hrel : Rel (va_up B 1 V') (oa_ms M 360 W.1 W.2) := Rel_trial h0 (by omega)
    have hc : oa_cpy (B 1) (B 0) 5 2 = B 0 5 2 := rfl
    have q2 : V' 5 2 - B 0 5 2 = W.1 97 := by
      rw [e2.2.2.2.2.1, cv.2.2.2.2.1, Int32.add_zero]
      exact Int32.add_sub_cancel _ _
    have q3 : V' 5 3 - B 0 5 3 = W.1 98 := by
      rw [e2.2.2.2.2.2, cv.2.2.2.2.2, Int32.add_zero]
      exact Int32.add_sub_cancel _ _
    by_cases w0 : w = 0
    · subst w0
      simp (disch := (first | omega | assumption | decide)) only [nI_0, oa_ms_rd' (j := 457) (k := 97), hc, q2, oa_ut, oa_bs, oa_lt, oa_ile, oa_inle, oa_ilt, oa_inlt, oa_ieq, oa_ineq, oa_rd_0, oa_rd_1, oa_wr_0, oa_wr_1, oa_rdL_nI, oa_wrL_nI, oa_bi_if0, oa_bi_if1, oa_zc_bi, oa_if_b0, oa_if_b1, nI_1, nI_add, pk_mul, Nat.add_assoc, Int32.add_zero, Int32.sub_zero, Int32.or_zero, Int32.and_neg_one, ite_self, if_true, if_false, oa_10, oa_01, oa_neg4, oa_ifno, oa_l2, oa_l3, oa_l4, oa_l5, oa_l6, oa_l7, oa_l8, oa_l9, oa_l10, oa_l12, oa_l15, oa_l16, oa_l20, oa_l32, oa_l40, oa_l42, oa_l48, oa_l64, oa_l90, oa_l96, oa_l97, oa_l98, oa_l99, oa_l100, oa_l120, oa_l360, oa_l450, oa_l457, oa_l458, oa_l480, oa_l528]
      exact ⟨_, _, _, rfl, rfl, hrel⟩
    by_cases w1 : w = 1
    · subst w1
      simp (disch := (first | omega | assumption | decide)) only [show nI 1 = (1 : Int32) from rfl, oa_ms_rd' (j := 458) (k := 98), hc, va_up_s, va_up_n, q3, oa_ut, oa_bs, oa_lt, oa_ile, oa_inle, oa_ilt, oa_inlt, oa_ieq, oa_ineq, oa_rd_0, oa_rd_1, oa_wr_0, oa_wr_1, oa_rdL_nI, oa_wrL_nI, oa_bi_if0, oa_bi_if1, oa_zc_bi, oa_if_b0, oa_if_b1, nI_1, nI_add, pk_mul, Nat.add_assoc, Int32.add_zero, Int32.sub_zero, Int32.or_zero, Int32.and_neg_one, ite_self, if_true, if_false, oa_10, oa_01, oa_neg4, oa_ifno, oa_l2, oa_l3, oa_l4, oa_l5, oa_l6, oa_l7, oa_l8, oa_l9, oa_l10, oa_l12, oa_l15, oa_l16, oa_l20, oa_l32, oa_l40, oa_l42, oa_l48, oa_l64, oa_l90, oa_l96, oa_l97, oa_l98, oa_l99, oa_l100, oa_l120, oa_l360, oa_l450, oa_l457, oa_l458, oa_l480, oa_l528]
      exact ⟨_, _, _, rfl, rfl, hrel⟩
    have n0 : ¬ nI w = 0 := nI_ne0 (by omega) (by omega)
    have n1 : ¬ nI w = 1 := fun c => w1 ((nI_eq (b := 1) (by omega) (by omega)).mp c)
    by_cases w2 : w = 2
    · subst w2
      simp (disch := (first | omega | assumption | decide)) only [if_neg n0, if_neg n1, oa_ms_09, va_up_s, e3, oa_ut, oa_bs, oa_lt, oa_ile, oa_inle, oa_ilt, oa_inlt, oa_ieq, oa_ineq, oa_rd_0, oa_rd_1, oa_wr_0, oa_wr_1, oa_rdL_nI, oa_wrL_nI, oa_bi_if0, oa_bi_if1, oa_zc_bi, oa_if_b0, oa_if_b1, nI_1, nI_add, pk_mul, Nat.add_assoc, Int32.add_zero, Int32.sub_zero, Int32.or_zero, Int32.and_neg_one, ite_self, if_true, if_false, oa_10, oa_01, oa_neg4, oa_ifno, oa_l2, oa_l3, oa_l4, oa_l5, oa_l6, oa_l7, oa_l8, oa_l9, oa_l10, oa_l12, oa_l15, oa_l16, oa_l20, oa_l32, oa_l40, oa_l42, oa_l48, oa_l64, oa_l90, oa_l96, oa_l97, oa_l98, oa_l99, oa_l100, oa_l120, oa_l360, oa_l450, oa_l457, oa_l458, oa_l480, oa_l528]
      exact ⟨_, _, _, rfl, rfl, hrel⟩
    by_cases w3 : w = 3
    · subst w3
      have hn' : HN M 360 n W.1 := ⟨h6, by omega, Or.inr ⟨by omega, h99⟩⟩
      simp (disch := (first | omega | assumption | decide)) only [if_neg n0, if_neg n1, va_up_s, cv_free e2, md_freeOnes (HN_ms hn' W.2), oa_ms_pg, oa_ms_2, oa_ut, oa_bs, oa_lt, oa_ile, oa_inle, oa_ilt, oa_inlt, oa_ieq, oa_ineq, oa_rd_0, oa_rd_1, oa_wr_0, oa_wr_1, oa_rdL_nI, oa_wrL_nI, oa_bi_if0, oa_bi_if1, oa_zc_bi, oa_if_b0, oa_if_b1, nI_1, nI_add, pk_mul, Nat.add_assoc, Int32.add_zero, Int32.sub_zero, Int32.or_zero, Int32.and_neg_one, ite_self, if_true, if_false, oa_10, oa_01, oa_neg4, oa_ifno, oa_l2, oa_l3, oa_l4, oa_l5, oa_l6, oa_l7, oa_l8, oa_l9, oa_l10, oa_l12, oa_l15, oa_l16, oa_l20, oa_l32, oa_l40, oa_l42, oa_l48, oa_l64, oa_l90, oa_l96, oa_l97, oa_l98, oa_l99, oa_l100, oa_l120, oa_l360, oa_l450, oa_l457, oa_l458, oa_l480, oa_l528]
      exact ⟨_, _, _, rfl, rfl, hrel⟩
    obtain ⟨p, rfl⟩ : ∃ p, w = 10 + p := ⟨w - 10, by omega⟩
    have hs1 : nI (10 + p) - nI 10 = nI p := by rw [pk_sub (by omega), Nat.add_sub_cancel_left]
    have hs2 : nI (450 + (10 + p)) - nI 10 = nI (450 + p) := by rw [pk_sub (by omega)]; congr 1; omega
    have q4 : V' 4 p - B 0 4 p = W.1 (90 + p) := by
      rw [e2.2.2.1 p (by omega), cv.2.2.1 p (by omega), Int32.add_zero]
      unfold gz
      rw [if_neg (by omega)]
      exact Int32.add_sub_cancel _ _
    simp (disch := (first | omega | assumption | decide)) only [if_neg n0, if_neg n1, va_up_s, va_up_n, hs1, hs2, oa_rd_nI, oa_ms_rd' (j := 450 + p) (k := 90 + p), q4, oa_ut, oa_bs, oa_lt, oa_ile, oa_inle, oa_ilt, oa_inlt, oa_ieq, oa_ineq, oa_rd_0, oa_rd_1, oa_wr_0, oa_wr_1, oa_rdL_nI, oa_wrL_nI, oa_bi_if0, oa_bi_if1, oa_zc_bi, oa_if_b0, oa_if_b1, nI_1, nI_add, pk_mul, Nat.add_assoc, Int32.add_zero, Int32.sub_zero, Int32.or_zero, Int32.and_neg_one, ite_self, if_true, if_false, oa_10, oa_01, oa_neg4, oa_ifno, oa_l2, oa_l3, oa_l4, oa_l5, oa_l6, oa_l7, oa_l8, oa_l9, oa_l10, oa_l12, oa_l15, oa_l16, oa_l20, oa_l32, oa_l40, oa_l42, oa_l48, oa_l64, oa_l90, oa_l96, oa_l97, oa_l98, oa_l99, oa_l100, oa_l120, oa_l360, oa_l450, oa_l457, oa_l458, oa_l480, oa_l528]
    exact ⟨_, _, _, rfl, rfl, hrel⟩
  unfold f_X6_run f_X7_run b_X6_run_30
  simp (disch := (first | omega | assumption | decide)) only [ct_has cv.1, f_within, f_in_0_1, f_in_0_2, f_in_0_3, f_in_0_4, f_in_0_6, f_in_0_7, f_in_0_12, f_in_0_20, f_in_0_99, f_in_1_4, f_in_1_99, md_many h99, f_in_v, oa_ut, oa_bs, oa_lt, oa_ile, oa_inle, oa_ilt, oa_inlt, oa_ieq, oa_ineq, oa_rd_0, oa_rd_1, oa_wr_0, oa_wr_1, oa_rdL_nI, oa_wrL_nI, oa_bi_if0, oa_bi_if1, oa_zc_bi, oa_if_b0, oa_if_b1, nI_1, nI_add, pk_mul, Nat.add_assoc, Int32.add_zero, Int32.sub_zero, Int32.or_zero, Int32.and_neg_one, ite_self, if_true, if_false, oa_10, oa_01, oa_neg4, oa_ifno, oa_l2, oa_l3, oa_l4, oa_l5, oa_l6, oa_l7, oa_l8, oa_l9, oa_l10, oa_l12, oa_l15, oa_l16, oa_l20, oa_l32, oa_l40, oa_l42, oa_l48, oa_l64, oa_l90, oa_l96, oa_l97, oa_l98, oa_l99, oa_l100, oa_l120, oa_l360, oa_l450, oa_l457, oa_l458, oa_l480, oa_l528]
  rw [← run_c h6]
  cases h1 : oa_wi x 0 (nI 99)
  · cases oa_wi y (nI 10) (nI 15) <;> cases oa_wi (y - nI 10) 0 (nI n - 1) <;> exact ⟨_, _, _, rfl, rfl, h0⟩
  · obtain ⟨m, _, m2, rfl⟩ := oa_wi_t (a := 0) (by omega) h1 (by omega)
    cases h2 : oa_wi y 0 (nI 3)
    · cases h3 : oa_wi y (nI 10) (nI 15)
      · exact ⟨_, _, _, rfl, rfl, h0⟩
      · cases h4 : oa_wi (y - nI 10) 0 (nI n - 1)
        · exact ⟨_, _, _, rfl, rfl, h0⟩
        · have h5 := run_c h6 y
          rw [h3, h4] at h5
          obtain ⟨w, w1, w2, rfl⟩ := oa_wi_t (by omega) h5.symm (by omega)
          exact key m m2 ⟨w, rfl, Or.inr ⟨w1, w2⟩⟩
    · obtain ⟨w, w1, w2, rfl⟩ := oa_wi_t (a := 0) (by omega) h2 (by omega)
      have := key m m2 ⟨w, rfl, Or.inl w2⟩
      cases oa_wi (nI w) (nI 10) (nI 15) <;> cases oa_wi (nI w - nI 10) 0 (nI n - 1) <;> exact this
theorem cv_week1 {n L : Nat} {R G P : oa_P} {V : oa_I2} (hR : RB R L) (h : CV n R G P V) (hw : PW n L P) : ∃ V', f_X5_passWeeks V 1 = some (V' 5 2 - V 5 2, V') ∧ CV n R G (wk R n P).1 V' ∧ V' 5 4 = (wk R n P).2 := cv_passWeeks (m := 1) hR (by omega) h hw
theorem c_peace (h : Rel B M) : ∃ a B' M', f_X6_peace B J = some (a, B') ∧ f_X7_peace M K = some (a, M') ∧ Rel B' M' := by
  have h0 := h
  obtain ⟨n, L, hR, ⟨cv, hp, h99, tb⟩, hI, hT, hF, hS, hC⟩ := h
  have h6 := cv.1.1
  unfold f_X6_peace f_X7_peace
  simp only [f_copyOf, md_tries0 h99 h6, oa_bs, oa_lt]
  unfold l_X6_peace_13 l_X7_peace_7
  refine oa_for2 (fun o o' => ∃ a B' M', o = some (a, B') ∧ o' = some (a, M') ∧ Rel B' M') (fun i s t => ∃ V, s = (va_up B 1 V, nI i) ∧ t = (oa_ms M 360 (wks (M 2) n i (T0 M)).1 (wks (M 2) n i (T0 M)).2, nI i) ∧ CV n (M 2) (gz (M 1)) (wks (M 2) n i (T0 M)).1 V) 99 ⟨_, rfl, rfl, cv_trial cv⟩ ?_ ?_ oa_fu oa_fu (by rw [oa_fu_eq]; omega) (by rw [oa_fu_eq]; omega)
  · rintro i hi s t ⟨V, rfl, rfl, hV⟩ k l
    obtain ⟨V', e1, e2, e3⟩ := cv_week1 hR.1 hV (PW_wks hR.1 h6 (PW_trial hp) i)
    have hn' : HN M 360 n (wks (M 2) n i (T0 M)).1 := ⟨h6, by omega, Or.inr ⟨by omega, h99⟩⟩
    have e4 : (wk (M 2) n (wks (M 2) n i (T0 M)).1) = wks (M 2) n (i + 1) (T0 M) := rfl
    simp (disch := (first | omega | assumption | decide)) only [b_X6_peace_13, b_X7_peace_7, va_up_s, e1, oa_up2, e3, md_week hn', oa_ms_09, oa_ut, oa_bs, oa_lt, oa_ile, oa_inle, oa_ilt, oa_inlt, oa_ieq, oa_ineq, oa_rd_0, oa_rd_1, oa_wr_0, oa_wr_1, oa_rdL_nI, oa_wrL_nI, oa_bi_if0, oa_bi_if1, oa_zc_bi, oa_if_b0, oa_if_b1, nI_1, nI_add, pk_mul, Nat.add_assoc, Int32.add_zero, Int32.sub_zero, Int32.or_zero, Int32.and_neg_one, ite_self, if_true, if_false, oa_10, oa_01, oa_neg4, oa_ifno, oa_l2, oa_l3, oa_l4, oa_l5, oa_l6, oa_l7, oa_l8, oa_l9, oa_l10, oa_l12, oa_l15, oa_l16, oa_l20, oa_l32, oa_l40, oa_l42, oa_l48, oa_l64, oa_l90, oa_l96, oa_l97, oa_l98, oa_l99, oa_l100, oa_l120, oa_l360, oa_l450, oa_l457, oa_l458, oa_l480, oa_l528]
    rw [e4]
    by_cases z : (wks (M 2) n (i + 1) (T0 M)).2 = 0
    · right
      rw [if_pos z, if_pos z]
      exact ⟨_, _, _, rfl, rfl, Rel_trial h0 (by omega)⟩
    · left
      rw [if_neg z, if_neg z]
      exact ⟨_, _, ⟨V', rfl, rfl, e2⟩, rfl, rfl⟩
  · rintro s t ⟨V, rfl, rfl, hV⟩ k l
    simp (disch := (first | omega | assumption | decide)) only [b_X6_peace_13, b_X7_peace_7, oa_ut, oa_bs, oa_lt, oa_ile, oa_inle, oa_ilt, oa_inlt, oa_ieq, oa_ineq, oa_rd_0, oa_rd_1, oa_wr_0, oa_wr_1, oa_rdL_nI, oa_wrL_nI, oa_bi_if0, oa_bi_if1, oa_zc_bi, oa_if_b0, oa_if_b1, nI_1, nI_add, pk_mul, Nat.add_assoc, Int32.add_zero, Int32.sub_zero, Int32.or_zero, Int32.and_neg_one, ite_self, if_true, if_false, oa_10, oa_01, oa_neg4, oa_ifno, oa_l2, oa_l3, oa_l4, oa_l5, oa_l6, oa_l7, oa_l8, oa_l9, oa_l10, oa_l12, oa_l15, oa_l16, oa_l20, oa_l32, oa_l40, oa_l42, oa_l48, oa_l64, oa_l90, oa_l96, oa_l97, oa_l98, oa_l99, oa_l100, oa_l120, oa_l360, oa_l450, oa_l457, oa_l458, oa_l480, oa_l528]
    exact ⟨_, _, _, rfl, rfl, Rel_trial h0 (by omega)⟩
end C3
