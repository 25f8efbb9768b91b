/-! the class's village against a page -/
def PW (n B : Nat) (P : oa_P) : Prop := ∀ r, r < 6 → ∀ p, p < 7 → ∃ a : Nat, P (48 + (7 * r + p)) = nI a ∧ a ≤ B ∧ (0 < a → r < n ∧ (p < n ∨ p = 6)) ∧ (p = 6 → a ≤ 1)
def CA (P : oa_P) (V : oa_I2) : Prop := (∀ r, r < 6 → V 2 r = oa_mk (an P r) 7) ∧ (∀ r, r < 6 → ∀ p, p < 6 → an P r p = true → P (48 + (7 * r + p)) = V 3 (r * 6 + p) + 1)
def CG (G P : oa_P) (V : oa_I2) : Prop := (∀ k, k < 6 → V 4 k = P (90 + k) + G k) ∧ V 5 1 = P 96 + G 6 ∧ V 5 2 = P 97 + G 7 ∧ V 5 3 = P 98 + G 8
def CV (n : Nat) (R G P : oa_P) (V : oa_I2) : Prop := CT n R P V ∧ CA P V ∧ CG G P V
theorem oa_r1 (a b c : Int32) : a + b + c = a + c + b := by rw [Int32.add_assoc, Int32.add_comm b c, ← Int32.add_assoc]
theorem oa_r2 (a b c : Int32) : a + b - c = a - c + b := by rw [Int32.sub_eq_add_neg, Int32.sub_eq_add_neg, oa_r1]
theorem oa_mk_or1 (f : Nat → Bool) {n p : Nat} (hn : n ≤ 32) (hp : p < n) : oa_mk f n ||| ((1 : Int32) <<< (nI p &&& 31)) = oa_mk (fun r => f r || decide (r = p)) n := by
  apply b_ext
  intro i hi
  rw [b_or, oa_b1 p (by omega) i hi, oa_mk_bt f n hn i hi, oa_mk_bt _ n hn i hi]
  by_cases e : i = p
  · subst e; simp [hp]
  · simp [e]
theorem an_upd {P : oa_P} {r p r' p' : Nat} {x : Int32} (hp : p < 7) (hp' : p' < 7) : an (upd P (48 + (7 * r + p)) x) r' p' = if r' = r ∧ p' = p then decide (0 < x) else an P r' p' := by
  unfold an upd
  by_cases h : r' = r ∧ p' = p
  · rw [if_pos h, if_pos (by omega)]
  · rw [if_neg h, if_neg (by omega)]
theorem an_hi {P : oa_P} {r p k : Nat} {x : Int32} (h : 90 ≤ k) (hr : r < 6) (hp : p < 7) : an (upd P k x) r p = an P r p := by
  unfold an
  rw [upd_n _ _ (by omega)]
section CVs
variable {n : Nat} {R G P : oa_P} {V : oa_I2}
theorem cv_bt {r p : Nat} (h : CV n R G P V) (hr : r < 6) (hp : p < 7) : bt (V 2 r) p = an P r p := by
  rw [h.2.1.1 r hr, bt_mk (by omega) hp]
theorem cv_pc {r : Nat} (h : CV n R G P V) (hr : r < 6) : oa_pc (V 2 r) = oa_cn (an P r) 7 := by
  rw [h.2.1.1 r hr, oa_pc_mk7]
theorem cv_free (h : CV n R G P V) : f_X5_free V = some (oa_mk (fr R P) n) := by
  rw [ct_free h.1]
  have := h.1.1
  refine congrArg some (oa_mk_cong fun r hr => ?_)
  rw [cv_pc h (by omega)]; rfl
theorem cv_cabl {p r : Nat} (h : CV n R G P V) (hr : r < 6) (hp : p < 6) : cabl R V p r = abl R P p r := by
  unfold cabl abl can
  rw [cv_pc h hr, cv_bt h hr (by omega)]
  show ((fr R P r && !an P r p) && !decide (r = p)) = _
  cases fr R P r <;> cases an P r p <;> cases decide (r = p) <;> rfl
theorem cv_able {p : Nat} (h : CV n R G P V) (hp : p < 6) : f_X5_able V (nI p) = some (oa_mk (abl R P p) n) := by
  rw [ct_able h.1 (by omega)]
  have := h.1.1
  exact congrArg some (oa_mk_cong fun r hr => cv_cabl h (by omega) hp)
theorem cv_ableAsSeen {p : Nat} (h : CV n R G P V) (hp : p < 6) : f_X5_ableAsSeen V (nI p) = some (oa_mk (abs' R P p) n) := by
  rw [ct_ableAsSeen h.1 (by omega)]
  have := h.1.1
  refine congrArg some (oa_mk_cong fun r hr => ?_)
  rw [cv_cabl h (by omega) hp]
  unfold abl abs' sn
  cases fr R P r <;> cases can P p r <;> cases fg P 3 r <;> rfl
theorem cv_angersOf {r : Nat} (h : CV n R G P V) (hr : r < 6) : f_X5_angersOf V (nI r) = some (oa_cn (an P r) 7) := by
  unfold f_X5_angersOf
  simp (disch := (first | omega | assumption | decide)) only [oa_pc_eq, cv_pc h, oa_ut, oa_bs, oa_lt, oa_ile, oa_inle, oa_ilt, oa_inlt, oa_ieq, oa_ineq, oa_rd_nI, oa_wr_nI, oa_rd_0, oa_rd_1, oa_wr_0, oa_wr_1, oa_rdL_nI, oa_wrL_nI, oa_bi_if0, oa_bi_if1, oa_zc_bi, oa_if_b0, oa_if_b1, nI_1, nI_add, pk_mul, Nat.add_assoc, Int32.add_zero, Int32.sub_zero, Int32.or_zero, Int32.and_neg_one, va_up_s, va_up_n, upd_s, oa_up2, ite_self, if_true, if_false, oa_10, oa_01, oa_neg4, oa_ifno, oa_l2, oa_l3, oa_l4, oa_l5, oa_l6, oa_l7, oa_l8, oa_l9, oa_l10, oa_l12, oa_l15, oa_l16, oa_l20, oa_l32, oa_l40, oa_l42, oa_l48, oa_l64, oa_l90, oa_l96, oa_l97, oa_l98, oa_l99, oa_l100, oa_l120, oa_l360, oa_l450, oa_l457, oa_l458, oa_l480, oa_l528]
theorem cv_isAngry {r p : Nat} (h : CV n R G P V) (hr : r < 6) (hp : p < 7) : f_X5_isAngry V (nI r) (nI p) = some (oa_bi (an P r p)) := by
  rw [ct_isAngry hr (by omega), cv_bt h hr hp]
theorem cv_isFree {r : Nat} (h : CV n R G P V) (hr : r < n) : f_X5_isFree V (nI r) = some (oa_bi (fr R P r)) := by
  have := h.1.1
  unfold f_X5_isFree
  simp (disch := (first | omega | assumption | decide)) only [cv_free h, oa_ut, oa_bs, oa_lt, oa_ile, oa_inle, oa_ilt, oa_inlt, oa_ieq, oa_ineq, oa_rd_nI, oa_wr_nI, oa_rd_0, oa_rd_1, oa_wr_0, oa_wr_1, oa_rdL_nI, oa_wrL_nI, oa_bi_if0, oa_bi_if1, oa_zc_bi, oa_if_b0, oa_if_b1, nI_1, nI_add, pk_mul, Nat.add_assoc, Int32.add_zero, Int32.sub_zero, Int32.or_zero, Int32.and_neg_one, va_up_s, va_up_n, upd_s, oa_up2, ite_self, if_true, if_false, oa_10, oa_01, oa_neg4, oa_ifno, oa_l2, oa_l3, oa_l4, oa_l5, oa_l6, oa_l7, oa_l8, oa_l9, oa_l10, oa_l12, oa_l15, oa_l16, oa_l20, oa_l32, oa_l40, oa_l42, oa_l48, oa_l64, oa_l90, oa_l96, oa_l97, oa_l98, oa_l99, oa_l100, oa_l120, oa_l360, oa_l450, oa_l457, oa_l458, oa_l480, oa_l528]
  rw [bt_mk (by omega) hr]
  cases fr R P r <;> rfl
theorem cv_val {q : Nat} {m : Nat → Bool} (h : CV n R G P V) (hq : q < n) : f_X5_value V (nI q) (oa_mk m n) = some (val R P q m n) := by
  have := h.1.1
  rw [ct_value h.1 hq]
  exact congrArg some (val_cong fun r hr => bt_mk (by omega) hr)
theorem cv_choice {p : Nat} (h : CV n R G P V) (hp : p < 6) : f_X5_choice V (nI p) (oa_mk (abs' R P p) n) = some (cho R P n p) := by
  have := h.1.1
  rw [ct_choice h.1 (by omega)]
  unfold cho
  rw [chs_cong (fun r hr => bt_mk (by omega) hr)]
theorem cv_minders {p q : Nat} (h : CV n R G P V) (hq : q < 6) : f_X5_minders V (nI q) (oa_mk (abl R P p) n) = some (oa_mk (wo R P p q) n) := by
  have := h.1.1
  rw [ct_minders h.1 (by omega)]
  refine congrArg some (oa_mk_cong fun r hr => ?_)
  rw [bt_mk (by omega) hr]
  unfold abl wo
  exact Bool.and_assoc _ _ _
theorem ct_TR {P' : oa_P} (h : CT n R P V) (t : TR P P') : CT n R P' V := by
  obtain ⟨h1, h2, h3, h4⟩ := h
  refine ⟨h1, h2, h3, fun w hw p hp => ?_⟩
  rw [t _ (by omega)]
  exact h4 w hw p hp
/-- an anger begins -/
theorem cv_start {r p : Nat} (h : CV n R G P V) (hr : r < 6) (hp : p < 7) : ∃ V', f_X5_start V (nI r) (nI p) = some V' ∧ CV n R G (upd P (48 + (7 * r + p)) 1) V' ∧ V' 5 = V 5 := by
  obtain ⟨h1, ⟨h2, h3⟩, h4, h5⟩ := h
  have ht : TR P (upd P (48 + (7 * r + p)) 1) := TR_upd (TR_refl P) (by omega) (by omega)
  have hm : ∀ r', r' < 6 → upd (V 2) r (V 2 r ||| ((1 : Int32) <<< (nI p &&& 31))) r' = oa_mk (an (upd P (48 + (7 * r + p)) 1) r') 7 := by
    intro r' hr'
    by_cases e : r' = r
    · subst e
      rw [upd_s, h2 r' hr', oa_mk_or1 _ (by omega) hp]
      refine oa_mk_cong fun k hk => ?_
      rw [an_upd hp hk]
      by_cases e : k = p
      · rw [if_pos ⟨rfl, e⟩]; simp [e]
      · rw [if_neg (fun c => e c.2)]; simp [e]
    · rw [upd_n _ _ e, h2 r' hr']
      refine oa_mk_cong fun k hk => ?_
      rw [an_upd hp hk, if_neg (fun c => e c.1)]
  have hg : ∀ k, k < 6 → V 4 k = upd P (48 + (7 * r + p)) 1 (90 + k) + G k := by
    intro k hk
    rw [upd_n _ _ (by omega)]; exact h4 k hk
  have hs : V 5 1 = upd P (48 + (7 * r + p)) 1 96 + G 6 ∧ V 5 2 = upd P (48 + (7 * r + p)) 1 97 + G 7 ∧ V 5 3 = upd P (48 + (7 * r + p)) 1 98 + G 8 := by
    rw [upd_n _ _ (by omega), upd_n _ _ (by omega), upd_n _ _ (by omega)]; exact h5
  unfold f_X5_start
  by_cases e6 : p = 6
  · subst e6
    simp (disch := (first | omega | assumption | decide)) only [oa_ut, oa_bs, oa_lt, oa_ile, oa_inle, oa_ilt, oa_inlt, oa_ieq, oa_ineq, oa_rd_nI, oa_wr_nI, oa_rd_0, oa_rd_1, oa_wr_0, oa_wr_1, oa_rdL_nI, oa_wrL_nI, oa_bi_if0, oa_bi_if1, oa_zc_bi, oa_if_b0, oa_if_b1, nI_1, nI_add, pk_mul, Nat.add_assoc, Int32.add_zero, Int32.sub_zero, Int32.or_zero, Int32.and_neg_one, va_up_s, va_up_n, upd_s, oa_up2, ite_self, if_true, if_false, oa_10, oa_01, oa_neg4, oa_ifno, oa_l2, oa_l3, oa_l4, oa_l5, oa_l6, oa_l7, oa_l8, oa_l9, oa_l10, oa_l12, oa_l15, oa_l16, oa_l20, oa_l32, oa_l40, oa_l42, oa_l48, oa_l64, oa_l90, oa_l96, oa_l97, oa_l98, oa_l99, oa_l100, oa_l120, oa_l360, oa_l450, oa_l457, oa_l458, oa_l480, oa_l528]
    refine ⟨_, rfl, ⟨ct_TR h1 ht, ⟨hm, ?_⟩, hg, hs⟩, rfl⟩
    intro r' hr' p' hp' ha
    rw [an_upd (by omega) (by omega), if_neg (by omega)] at ha
    rw [upd_n _ _ (by omega)]
    exact h3 r' hr' p' hp' ha
  · simp (disch := (first | omega | assumption | decide)) only [oa_ut, oa_bs, oa_lt, oa_ile, oa_inle, oa_ilt, oa_inlt, oa_ieq, oa_ineq, oa_rd_nI, oa_wr_nI, oa_rd_0, oa_rd_1, oa_wr_0, oa_wr_1, oa_rdL_nI, oa_wrL_nI, oa_bi_if0, oa_bi_if1, oa_zc_bi, oa_if_b0, oa_if_b1, nI_1, nI_add, pk_mul, Nat.add_assoc, Int32.add_zero, Int32.sub_zero, Int32.or_zero, Int32.and_neg_one, va_up_s, va_up_n, upd_s, oa_up2, ite_self, if_true, if_false, oa_10, oa_01, oa_neg4, oa_ifno, oa_l2, oa_l3, oa_l4, oa_l5, oa_l6, oa_l7, oa_l8, oa_l9, oa_l10, oa_l12, oa_l15, oa_l16, oa_l20, oa_l32, oa_l40, oa_l42, oa_l48, oa_l64, oa_l90, oa_l96, oa_l97, oa_l98, oa_l99, oa_l100, oa_l120, oa_l360, oa_l450, oa_l457, oa_l458, oa_l480, oa_l528]
    refine ⟨_, rfl, ⟨ct_TR h1 ht, ⟨hm, ?_⟩, hg, hs⟩, rfl⟩
    intro r' hr' p' hp' ha
    show _ = upd (V 3) (r * 6 + p) 0 (r' * 6 + p') + 1
    by_cases e : r' = r ∧ p' = p
    · obtain ⟨rfl, rfl⟩ := e
      rw [upd_s, upd_s]; rfl
    · rw [an_upd (by omega) (by omega), if_neg e] at ha
      rw [upd_n _ _ (by omega), upd_n _ _ (by omega)]
      exact h3 r' hr' p' hp' ha
/-- an anger ends -/
theorem cv_stop {r p : Nat} (h : CV n R G P V) (hr : r < 6) (hp : p < 7) : ∃ V', f_X5_stop V (nI r) (nI p) = some V' ∧ CV n R G (upd P (48 + (7 * r + p)) 0) V' ∧ V' 5 = V 5 ∧ V' 4 = V 4 := by
  obtain ⟨h1, ⟨h2, h3⟩, h4, h5⟩ := h
  have ht : TR P (upd P (48 + (7 * r + p)) 0) := TR_upd (TR_refl P) (by omega) (by omega)
  have hm : ∀ r', r' < 6 → upd (V 2) r (V 2 r &&& (((1 : Int32) <<< (nI p &&& 31)) ^^^ (-1))) r' = oa_mk (an (upd P (48 + (7 * r + p)) 0) r') 7 := by
    intro r' hr'
    by_cases e : r' = r
    · subst e
      rw [upd_s, h2 r' hr', oa_mk_and1 _ (by omega) (by omega)]
      refine oa_mk_cong fun k hk => ?_
      rw [an_upd hp hk]
      by_cases e : k = p
      · rw [if_pos ⟨rfl, e⟩]; simp [e]
      · rw [if_neg (fun c => e c.2)]; simp [e]
    · rw [upd_n _ _ e, h2 r' hr']
      refine oa_mk_cong fun k hk => ?_
      rw [an_upd hp hk, if_neg (fun c => e c.1)]
  unfold f_X5_stop
  simp (disch := (first | omega | assumption | decide)) only [oa_ut, oa_bs, oa_lt, oa_ile, oa_inle, oa_ilt, oa_inlt, oa_ieq, oa_ineq, oa_rd_nI, oa_wr_nI, oa_rd_0, oa_rd_1, oa_wr_0, oa_wr_1, oa_rdL_nI, oa_wrL_nI, oa_bi_if0, oa_bi_if1, oa_zc_bi, oa_if_b0, oa_if_b1, nI_1, nI_add, pk_mul, Nat.add_assoc, Int32.add_zero, Int32.sub_zero, Int32.or_zero, Int32.and_neg_one, va_up_s, va_up_n, upd_s, oa_up2, ite_self, if_true, if_false, oa_10, oa_01, oa_neg4, oa_ifno, oa_l2, oa_l3, oa_l4, oa_l5, oa_l6, oa_l7, oa_l8, oa_l9, oa_l10, oa_l12, oa_l15, oa_l16, oa_l20, oa_l32, oa_l40, oa_l42, oa_l48, oa_l64, oa_l90, oa_l96, oa_l97, oa_l98, oa_l99, oa_l100, oa_l120, oa_l360, oa_l450, oa_l457, oa_l458, oa_l480, oa_l528]
  refine ⟨_, rfl, ⟨ct_TR h1 ht, ⟨hm, ?_⟩, ?_, ?_⟩, rfl, rfl⟩
  · intro r' hr' p' hp' ha
    rw [an_upd (by omega) (by omega)] at ha
    by_cases e : r' = r ∧ p' = p
    · rw [if_pos e] at ha
      exact absurd ha (by decide)
    · rw [if_neg e] at ha
      rw [upd_n _ _ (by omega)]
      exact h3 r' hr' p' hp' ha
  · intro k hk
    rw [upd_n _ _ (by omega)]; exact h4 k hk
  · rw [upd_n _ _ (by omega), upd_n _ _ (by omega), upd_n _ _ (by omega)]; exact h5
/-- a gain changes -/
theorem cv_gain {p : Nat} {d : Int32} (h : CV n R G P V) (hp : p < 6) : CV n R G (upd P (90 + p) (P (90 + p) + d)) (va_up V 4 (upd (V 4) p (V 4 p + d))) := by
  obtain ⟨h1, ⟨h2, h3⟩, h4, h5⟩ := h
  refine ⟨ct_TR h1 (TR_upd (TR_refl P) (by omega) (by omega)), ⟨?_, ?_⟩, ?_, ?_⟩
  · intro r hr
    show V 2 r = _
    rw [h2 r hr]
    exact oa_mk_cong fun k hk => (an_hi (by omega) hr hk).symm
  · intro r hr q hq ha
    rw [an_hi (by omega) hr (by omega)] at ha
    rw [upd_n _ _ (by omega)]
    exact h3 r hr q hq ha
  · intro k hk
    show upd (V 4) p (V 4 p + d) k = _
    by_cases e : k = p
    · subst e
      rw [upd_s, upd_s, h4 k hk, oa_r1]
    · rw [upd_n _ _ e, upd_n _ _ (by omega)]; exact h4 k hk
  · rw [upd_n _ _ (by omega), upd_n _ _ (by omega), upd_n _ _ (by omega)]; exact h5
end CVs
