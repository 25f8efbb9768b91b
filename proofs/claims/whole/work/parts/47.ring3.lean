section RGL
variable {B : oa_I3} {J : oa_J2} {M : oa_I2} {K : oa_J2} {n : Nat}
theorem rg_single {P : oa_P} {s : Nat} (h6 : n ≤ 6) (h0 : 0 < s) (hs : s < 2 ^ n) (e : s = 2 ^ fs s) : nI s = oa_mk (wy P n s) n := by
  have h64 := p2_le h6
  obtain ⟨f1, f2, f3⟩ := rg_fs s (by omega) h0
  have hw : ∀ r, r < 6 → wy P n s r = s.testBit r := by
    intro r hr
    have hb : s.testBit r = decide (r = fs s) := by rw [e]; rw [(rg_pow (fs s) f1).2 r hr, (rg_pow (fs s) f1).1]
    by_cases c : r = fs s
    · rw [hb, decide_eq_true c, wy, if_pos (by rw [c]; exact e)]
    · rw [hb, decide_eq_false c, wy]
      rw [if_neg, dif_neg]
      · rw [hb, decide_eq_false c]; decide
      · intro d
        rw [d, (rg_pow r hr).2 r hr] at hb
        rw [decide_eq_true rfl] at hb
        have := of_decide_eq_true hb.symm
        rw [← d] at this
        exact c this
  apply b_ext
  intro i hi
  rw [bt_nI s hi, oa_mk_bt _ n (by omega) i hi]
  by_cases l : i < n
  · rw [decide_eq_true l, hw i (by omega)]; rfl
  · rw [decide_eq_false l, Bool.false_and]
    exact Nat.testBit_lt_two_pow (Nat.lt_of_lt_of_le hs (Nat.pow_le_pow_right (by omega) (by omega)))
/-- shortest, longest, least bits against least and most -/
def RQ (X : oa_I2) (b c : Int32) : Prop := (b = oNO ∧ c = oNO ∧ X 1 0 = oNO ∧ X 1 1 = oNO ∧ X 1 2 = oNO) ∨ ∃ u v, 0 < u ∧ u < 64 ∧ 0 < v ∧ v < 64 ∧ b = nI u ∧ c = nI v ∧ X 1 0 = nI (pn u) ∧ X 1 1 = nI (pn v) ∧ X 1 2 = nI u
theorem pn_le (s : Nat) : pn s ≤ 6 := oa_cN_le _ _
theorem md_pn {s : Nat} (hs : s < 64) : f_X7_bitsOf (nI s) = some (nI (pn s)) := by rw [md_bits hs, rg_pc s hs]
theorem rg_note {X : oa_I2} {b c : Int32} {s : Nat} (h0 : 0 < s) (hs : s < 64) (h : RQ X b c) : ∃ X', f_X2_noteRing X (nI s) (nI (pn s)) = some X' ∧ X' 0 = X 0 ∧ ∀ (k27 : Int32 → Int32 → Int32 → Option (Int32 × oa_I2)) (x : Int32), ∃ b' c', RQ X' b' c' ∧ (if b = -4 then b_X7_ring_80 K x k27 M c (nI s) (nI s) else (f_X7_bitsOf b).bind fun (y33 : Int32) => if y33 ≤ nI (pn s) then b_X7_ring_80 K x k27 M c (nI s) b else b_X7_ring_80 K x k27 M c (nI s) (nI s)) = k27 b' c' (nI (s + 1)) := by
  have p6 := pn_le s
  rcases h with ⟨rfl, rfl, h1, h2, h3⟩ | ⟨u, v, u0, u1, v0, v1, rfl, rfl, h1, h2, h3⟩
  · refine ⟨va_up X 1 (upd (upd (upd (X 1) 0 (nI (pn s))) 2 (nI s)) 1 (nI (pn s))), ?_, rfl, fun k27 x => ⟨nI s, nI s, Or.inr ⟨s, s, h0, hs, h0, hs, rfl, rfl, rfl, rfl, rfl⟩, ?_⟩⟩
    · unfold f_X2_noteRing b_X2_noteRing_17 b_X2_noteRing_27
      rw [if_pos (show X 1 0 = -4 from h1)]
      simp only [oa_lt, oa_up2, va_up_s]
      have : oa_max (upd (upd (X 1) 0 (nI (pn s))) 2 (nI s) 1) (nI (pn s)) = nI (pn s) := by
        show oa_max (X 1 1) (nI (pn s)) = _
        rw [h2]
        unfold oa_max
        rw [if_pos]
        exact Int32.lt_of_lt_of_le (show oNO < 0 by decide) (nI_pos' (by omega))
      rw [this]
    · rw [if_pos (show oNO = -4 from rfl)]
      unfold b_X7_ring_80
      rw [if_pos (show oNO = -4 from rfl), nI_1]
  · have q6 := pn_le u
    have r6 := pn_le v
    have nu : ¬ nI u = -4 := oa_no (by omega)
    have nv : ¬ nI v = -4 := oa_no (by omega)
    have nx : ¬ X 1 0 = -4 := by rw [h1]; exact oa_no (by omega)
    have hmax : oa_max (nI (pn v)) (nI (pn s)) = nI (pn (if pn s ≤ pn v then v else s)) := by
      unfold oa_max
      by_cases l : pn s ≤ pn v
      · rw [if_neg (nI_nlt l (by omega)), if_pos l]
      · rw [if_pos (nI_lt (by omega) (by omega)), if_neg l]
    have hm80 : ∀ (k27 : Int32 → Int32 → Int32 → Option (Int32 × oa_I2)) (x z : Int32), b_X7_ring_80 K x k27 M (nI v) (nI s) z = k27 z (nI (if pn s ≤ pn v then v else s)) (nI (s + 1)) := by
      intro k27 x z
      unfold b_X7_ring_80
      rw [if_neg nv, md_pn hs, md_pn v1]
      simp only [oa_bs, nI_1]
      by_cases l : pn s ≤ pn v
      · rw [if_pos (nI_le l (by omega)), if_pos l]
      · rw [if_neg (nI_ge (by omega) (by omega)), if_neg l]
    have hv' : 0 < (if pn s ≤ pn v then v else s) ∧ (if pn s ≤ pn v then v else s) < 64 := by
      split <;> omega
    generalize (if pn s ≤ pn v then v else s) = v' at hmax hm80 hv'
    by_cases l : pn u ≤ pn s
    · refine ⟨va_up X 1 (upd (X 1) 1 (nI (pn v'))), ?_, rfl, fun k27 x => ⟨nI u, nI v', Or.inr ⟨u, v', u0, u1, hv'.1, hv'.2, rfl, rfl, h1, rfl, h3⟩, ?_⟩⟩
      · unfold f_X2_noteRing b_X2_noteRing_27
        rw [if_neg nx, h1, if_pos (nI_le l (by omega))]
        simp only [oa_lt]
        rw [h2, hmax]
      · rw [if_neg nu, md_pn u1]
        simp only [oa_bs]
        rw [if_pos (nI_le l (by omega)), hm80]
    · refine ⟨va_up X 1 (upd (upd (upd (X 1) 0 (nI (pn s))) 2 (nI s)) 1 (nI (pn v'))), ?_, rfl, fun k27 x => ⟨nI s, nI v', Or.inr ⟨s, v', h0, hs, hv'.1, hv'.2, rfl, rfl, rfl, rfl, rfl⟩, ?_⟩⟩
      · unfold f_X2_noteRing b_X2_noteRing_17 b_X2_noteRing_27
        rw [if_neg nx, h1, if_neg (nI_ge (by omega) (by omega))]
        simp only [oa_lt, oa_up2, va_up_s]
        have : oa_max (upd (upd (X 1) 0 (nI (pn s))) 2 (nI s) 1) (nI (pn s)) = nI (pn v') := by
          show oa_max (X 1 1) (nI (pn s)) = _
          rw [h2]; exact hmax
        rw [this]
      · rw [if_neg nu, md_pn u1]
        simp only [oa_bs]
        rw [if_neg (nI_ge (by omega) (by omega)), hm80]
theorem Rel_ring {Y : oa_P} {X : oa_I2} (h : Rel B M) : Rel (va_up B 12 X) (va_up M 9 Y) := by
  refine Rel_step h ⟨rfl, rfl, rfl, rfl, rfl, rfl, rfl, rfl, rfl, rfl, rfl⟩ (fun k _ _ => ?_) (fun a h1 h2 => va_up_n _ _ (by omega)) (fun n L _ g => ?_)
  · rw [va_up_n _ _ (by omega)]
  · rw [va_up_n _ _ (by omega), va_up_n _ _ (by omega)]; exact g
theorem c_ring (h : Rel B M) (x : Int32) : ∃ a B' M', f_X6_ring B J x = some (a, B') ∧ f_X7_ring M K x = some (a, M') ∧ Rel B' M' := by
  have h0 := h
  obtain ⟨n, L, hR, ⟨cv, hp, h99, tb⟩, hI, hT, hF, hS, hC⟩ := h
  have h6 := cv.1.1
  have h64 := p2_le h6
  have hpos : 1 ≤ 2 ^ n := Nat.two_pow_pos n
  unfold f_X6_ring f_X7_ring
  simp (disch := (first | omega | assumption | decide)) only [f_within, f_in_0_1, f_in_0_2, f_in_0_3, f_in_0_4, f_in_0_6, f_in_0_7, f_in_0_12, f_in_0_20, f_in_0_99, f_in_1_4, f_in_1_99, oa_ut, oa_bs, oa_lt, oa_ile, oa_inle, oa_ilt, oa_inlt, oa_ieq, oa_ineq, oa_rd_0, oa_rd_1, oa_wr_0, oa_wr_1, oa_rdL_nI, oa_wrL_nI, oa_bi_if0, oa_bi_if1, oa_zc_bi, oa_if_b0, oa_if_b1, nI_1, nI_add, pk_mul, Nat.add_assoc, Int32.add_zero, Int32.sub_zero, Int32.or_zero, Int32.and_neg_one, ite_self, if_true, if_false, oa_10, oa_01, oa_neg4, oa_ifno, oa_l2, oa_l3, oa_l4, oa_l5, oa_l6, oa_l7, oa_l8, oa_l9, oa_l10, oa_l12, oa_l15, oa_l16, oa_l20, oa_l32, oa_l40, oa_l42, oa_l48, oa_l64, oa_l90, oa_l96, oa_l97, oa_l98, oa_l99, oa_l100, oa_l120, oa_l360, oa_l450, oa_l457, oa_l458, oa_l480, oa_l528]
  cases hx : oa_wi x 0 (nI 2)
  · exact ⟨_, _, _, rfl, rfl, h0⟩
  obtain ⟨wh, _, wh2, rfl⟩ := oa_wi_t (a := 0) (b := 2) (by omega) hx (by omega)
  obtain ⟨Y, y1, y2⟩ := md_layWays (K := K) h99 h6
  have hM1 : va_up M 9 Y 1 = M 1 := va_up_n _ _ (by omega)
  have hn' : va_up M 9 Y 1 99 = nI n := by rw [hM1]; exact h99
  simp only [if_true, y1, oa_bs]
  have key : ∃ X' b c, f_X2_find (B 12) (B 0) = some X' ∧ RQ X' b c ∧ l_X7_ring_27 K (nI wh) (va_up M 9 Y) oa_fu oNO oNO 1 = (if b = -4 then some (-4, va_up M 9 Y) else if nI wh = 0 then (f_X7_bitsOf b).bind fun (y18 : Int32) => some (y18, va_up M 9 Y) else if nI wh = 1 then (f_X7_bitsOf c).bind fun (y15 : Int32) => some (y15, va_up M 9 Y) else some (b, va_up M 9 Y)) := by
    unfold f_X2_find l_X2_find_20 l_X7_ring_27
    simp only [oa_lt]
    refine oa_for2 (fun o o' => ∃ X' b c, o = some X' ∧ RQ X' b c ∧ o' = (if b = -4 then some (-4, va_up M 9 Y) else if nI wh = 0 then (f_X7_bitsOf b).bind fun (y18 : Int32) => some (y18, va_up M 9 Y) else if nI wh = 1 then (f_X7_bitsOf c).bind fun (y15 : Int32) => some (y15, va_up M 9 Y) else some (b, va_up M 9 Y))) (fun i s t => ∃ X b c, s = (X, nI (i + 1)) ∧ t = (b, c, nI (i + 1)) ∧ RQ X b c ∧ ∀ s', 0 < s' → s' < i + 1 → X 0 s' = oa_mk (wy (M 1) n s') n) (2 ^ n - 1) ⟨_, _, _, rfl, rfl, Or.inl ⟨rfl, rfl, rfl, rfl, rfl⟩, fun s' h1 h2 => by omega⟩ ?_ ?_ oa_fu oa_fu (by rw [oa_fu_eq]; omega) (by rw [oa_fu_eq]; omega)
    · rintro i hi s t ⟨X, b, c, rfl, rfl, hq, hE⟩ k l
      left
      have hs : i + 1 < 2 ^ n := by omega
      generalize hgi : i + 1 = s at hs hE
      have hs0 : 0 < s := by omega
      have p6 := pn_le s
      have p1 := rg_p1 s (by omega) hs0
      obtain ⟨f1, f2, f3⟩ := rg_fs s (by omega) hs0
      have hsg := rg_sg s (by omega) hs0
      -- what is written
      have hw : b_X2_find_20 (B 0) (fun R x2 => k (R, x2)) X (nI s) = b_X2_find_63 (B 0) (fun R x2 => k (R, x2)) X (nI s) (nI (fs s)) (nI (pn s)) (nI s) (oa_mk (wy (M 1) n s) n) := by
        unfold b_X2_find_20
        rw [cv.1.2.1, oa_shl1 n h6, if_neg (nI_ge hs (by omega)), rg_ntz s (by omega) hs0]
        simp only [oa_bs, oa_pc_eq]
        rw [rg_pc s (by omega)]
        by_cases e : pn s = 1
        · rw [if_pos (show nI (pn s) = 1 by rw [e]; rfl), rg_single h6 hs0 hs (hsg.mp e)]
          all_goals rfl
        · have ne : ¬ nI (pn s) = 1 := fun d => e ((nI_eq (b := 1) (by omega) (by omega)).mp d)
          rw [if_neg ne, cl_endsOf cv hs0 hs (fun d => e (hsg.mpr d)) hE]
          all_goals rfl
      have hE' : ∀ s', 0 < s' → s' < s + 1 → upd (X 0) s (oa_mk (wy (M 1) n s) n) s' = oa_mk (wy (M 1) n s') n := by
        intro s' g1 g2
        by_cases e : s' = s
        · rw [e, upd_s]
        · rw [upd_n _ _ e]; exact hE s' g1 (by omega)
      have hq' : RQ (va_up X 0 (upd (X 0) s (oa_mk (wy (M 1) n s) n))) b c := hq
      simp only [oa_ut]
      rw [hw]
      unfold b_X2_find_63 b_X7_ring_27
      rw [oa_wr_nI (by omega) (by omega), md_many hn']
      simp only [oa_bs, oa_lt, va_up_s]
      rw [oa_shl1 n h6, if_neg (nI_ge hs (by omega)), md_pn (by omega)]
      simp only [oa_bs]
      by_cases e : pn s ≤ 1
      · have l1 : nI (pn s) ≤ 1 := nI_le (b := 1) e (by omega)
        rw [if_pos l1, if_pos l1, nI_1]
        exact ⟨_, _, ⟨_, b, c, rfl, rfl, hq', hE'⟩, rfl, rfl⟩
      · have l1 : ¬ nI (pn s) ≤ 1 := nI_ge (a := 1) (by omega) (by omega)
        rw [if_neg l1, if_neg l1, md_isRing hn' h6 hs0 hs (by omega) y2, hM1, oa_rd_nI (by omega) (by omega), upd_s, cv_angryWith cv f1]
        simp only [oa_bs, oa_bi_if0]
        rw [oa_mk_and _ _ (by omega), mk_0 (by omega), show exb (fun r => wy (M 1) n s r && an (M 1) r (fs s)) n = rg (M 1) n s from rfl]
        cases rg (M 1) n s
        · rw [if_neg (by decide), if_neg (by decide), nI_1]
          exact ⟨_, _, ⟨_, b, c, rfl, rfl, hq', hE'⟩, rfl, rfl⟩
        · rw [if_pos rfl, if_pos rfl]
          obtain ⟨X', e1, e2, e3⟩ := rg_note (M := va_up M 9 Y) (K := K) hs0 (by omega) hq'
          obtain ⟨b', c', e4, e5⟩ := e3 (fun x2 x3 x4 => l (x2, x3, x4)) (nI wh)
          rw [e1, e5]
          simp only [oa_bs, nI_1]
          refine ⟨_, _, ⟨X', b', c', rfl, rfl, e4, fun s' g1 g2 => ?_⟩, rfl, rfl⟩
          rw [e2]
          exact hE' s' g1 g2
    · rintro s t ⟨X, b, c, rfl, rfl, hq, hE⟩ k l
      refine ⟨X, b, c, ?_, hq, ?_⟩
      · simp only [oa_ut]
        unfold b_X2_find_20
        rw [cv.1.2.1, oa_shl1 n h6, if_pos (nI_le (by omega) (by omega))]
      · simp only [oa_ut]
        unfold b_X7_ring_27
        rw [md_many hn']
        simp only [oa_bs]
        rw [oa_shl1 n h6, if_pos (nI_le (by omega) (by omega))]
  obtain ⟨X', b, c, k1, k2, k3⟩ := key
  rw [k1, k3]
  have hrel : Rel (va_up B 12 X') (va_up M 9 Y) := Rel_ring h0
  simp only [oa_bs, oa_lt, va_up_s]
  rcases k2 with ⟨rfl, rfl, q1, q2, q3⟩ | ⟨u, v, u0, u1, v0, v1, rfl, rfl, q1, q2, q3⟩
  · rw [if_pos (show oNO = -4 from rfl), q1, q2, q3]
    by_cases w0 : wh = 0
    · subst w0; exact ⟨_, _, _, rfl, rfl, hrel⟩
    · rw [if_neg (nI_ne0 (by omega) (by omega))]
      simp only [ite_self]
      exact ⟨_, _, _, rfl, rfl, hrel⟩
  · rw [if_neg (show ¬ nI u = -4 from oa_no (by omega)), q1, q2, q3, md_pn u1, md_pn v1]
    simp only [oa_bs]
    by_cases w0 : wh = 0
    · subst w0; exact ⟨_, _, _, rfl, rfl, hrel⟩
    · have n0 : ¬ nI wh = 0 := nI_ne0 (by omega) (by omega)
      rw [if_neg n0, if_neg n0]
      by_cases w1 : wh = 1
      · subst w1; exact ⟨_, _, _, rfl, rfl, hrel⟩
      · have n1 : ¬ nI wh = 1 := fun d => w1 ((nI_eq (b := 1) (by omega) (by omega)).mp d)
        rw [if_neg n1, if_neg n1]
        exact ⟨_, _, _, rfl, rfl, hrel⟩
end RGL
