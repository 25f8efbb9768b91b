theorem md_leastOf {s : Nat} (h0 : 0 < s) (hs : s < 64) : f_X7_leastOf (nI s) = some (nI (fs s)) := by
  obtain ⟨f1, f2, f3⟩ := rg_fs s hs h0
  unfold f_X7_leastOf l_X7_leastOf_2
  refine oa_for (fun i => nI i) (fs s) rfl ?_ ?_ oa_fu (by rw [oa_fu_eq]; omega)
  · intro i hi k
    show b_X7_leastOf_2 (nI s) (fun x1 => k x1) (nI i) = _
    unfold b_X7_leastOf_2
    rw [oa_if_b0 _ (by omega), bt_nI s (by omega), f3 i hi, if_neg (by decide), nI_1]
  · intro k
    show b_X7_leastOf_2 (nI s) (fun x1 => k x1) (nI (fs s)) = _
    unfold b_X7_leastOf_2
    rw [oa_if_b0 _ (by omega), bt_nI s (by omega), f2, if_pos rfl]
section RGM
variable {M : oa_I2} {K : oa_J2} {n : Nat}
theorem oa_bi_nar (c : Bool) : vp_nar .boolean (oa_bi c) = oa_bi c := by
  cases c
  · exact oa_nar0
  · exact oa_nar1
/-- the model's table -/
def TW (M : oa_I2) (n : Nat) (s : Nat) : Prop := ∀ s', 0 < s' → s' < s → ∀ l, l < 6 → M 9 (6 * s' + l) = oa_bi (wy (M 1) n s' l)
theorem md_ways_in {s l : Nat} {k2 k19 : oa_I2 → Int32 → Option oa_I2} (hn : M 1 99 = nI n) (h6 : n ≤ 6) (hs0 : 0 < s) (hs : s < 2 ^ n) (hl : l < 6) (hT : TW M n s) : b_X7_layWays_19 K (nI s) (nI (fs s)) k2 k19 M (nI l) = b_X7_layWays_130 K k2 k19 M (nI s) (nI (fs s)) (nI l) (oa_bi (wy (M 1) n s l)) := by
  have h64 := p2_le h6
  unfold b_X7_layWays_19
  rw [if_neg (show ¬ (6 : Int32) ≤ nI l from nI_ge (b := 6) hl (by omega))]
  have hbt : bt (nI s) l = s.testBit l := bt_nI s (by omega)
  by_cases e : s = 2 ^ l
  · rw [if_pos ((rg_one s (by omega) l hl).mpr e)]
    have hw : wy (M 1) n s l = true := by rw [wy, if_pos e]
    rw [hw]
    simp only [oa_lt]
    unfold l_X7_layWays_51
    refine oa_for (fun _ => (1, 0)) 0 rfl (fun i hi => absurd hi (Nat.not_lt_zero i)) (fun k => ?_) oa_fu (by rw [oa_fu_eq]; omega)
    simp (disch := (first | omega | assumption | decide)) only [b_X7_layWays_51, md_many hn, oa_ut, oa_bs, oa_lt, oa_ile, oa_inle, oa_ilt, oa_inlt, oa_ieq, oa_ineq, oa_rd_0, oa_rd_1, oa_wr_0, oa_wr_1, oa_rdL_nI, oa_wrL_nI, oa_bi_if0, oa_bi_if1, oa_zc_bi, oa_if_b0, oa_if_b1, nI_1, nI_add, pk_mul, Nat.add_assoc, Int32.add_zero, Int32.sub_zero, Int32.or_zero, Int32.and_neg_one, ite_self, if_true, if_false, oa_10, oa_01, oa_neg4, oa_ifno, oa_l2, oa_l3, oa_l4, oa_l5, oa_l6, oa_l7, oa_l8, oa_l9, oa_l10, oa_l12, oa_l15, oa_l16, oa_l20, oa_l32, oa_l40, oa_l42, oa_l48, oa_l64, oa_l90, oa_l96, oa_l97, oa_l98, oa_l99, oa_l100, oa_l120, oa_l360, oa_l450, oa_l457, oa_l458, oa_l480, oa_l528]
    rfl
  · rw [if_neg (fun c => e ((rg_one s (by omega) l hl).mp c))]
    simp only [oa_lt]
    by_cases ht : s.testBit l = true ∧ ¬ l = fs s
    · have hlt : 2 ^ l ≤ s := Nat.ge_two_pow_of_testBit ht.1
      have h2 : 0 < 2 ^ l := Nat.two_pow_pos l
      have hw : wy (M 1) n s l = exb (fun r => wy (M 1) n (s - 2 ^ l) r && an (M 1) r l) n := by
        rw [wy, if_neg e, dif_pos ht.1, decide_eq_false ht.2]; rfl
      obtain ⟨f1, f2, f3⟩ := rg_fs s (by omega) hs0
      rw [rg_rest s (by omega) l hl ht.1, hw]
      unfold l_X7_layWays_51
      refine oa_forR (fun o => o = b_X7_layWays_130 K k2 k19 M (nI s) (nI (fs s)) (nI l) (oa_bi (exb (fun r => wy (M 1) n (s - 2 ^ l) r && an (M 1) r l) n))) (fun i t => t = (oa_bi (exb (fun r => wy (M 1) n (s - 2 ^ l) r && an (M 1) r l) i), nI i)) n rfl ?_ ?_ oa_fu (by rw [oa_fu_eq]; omega)
      · rintro i hi t rfl
        have nf : ¬ nI l = nI (fs s) := fun c => ht.2 ((nI_eq (by omega) (by omega)).mp c)
        have hrd := hT (s - 2 ^ l) (by omega) (by omega) i (by omega)
        cases hx : exb (fun r => wy (M 1) n (s - 2 ^ l) r && an (M 1) r l) i
        · left
          refine ⟨(oa_bi (exb (fun r => wy (M 1) n (s - 2 ^ l) r && an (M 1) r l) (i + 1)), nI (i + 1)), rfl, fun k => ?_⟩
          have hx1 : exb (fun r => wy (M 1) n (s - 2 ^ l) r && an (M 1) r l) (i + 1) = (wy (M 1) n (s - 2 ^ l) i && an (M 1) i l) := by
            show (exb _ i || _) = _
            rw [hx]; rfl
          rw [hx1]
          simp (disch := (first | omega | assumption | decide)) only [b_X7_layWays_51, md_many hn, hbt, ht.1, if_neg nf, hrd, oa_ut, oa_bs, oa_lt, oa_ile, oa_inle, oa_ilt, oa_inlt, oa_ieq, oa_ineq, oa_rd_nI, oa_wr_nI, oa_rd_0, oa_rd_1, oa_wr_0, oa_wr_1, oa_rdL_nI, oa_wrL_nI, oa_bi_if0, oa_bi_if1, oa_zc_bi, oa_if_b0, oa_if_b1, nI_1, nI_add, pk_mul, Nat.add_assoc, Int32.add_zero, Int32.sub_zero, Int32.or_zero, Int32.and_neg_one, va_up_s, va_up_n, upd_s, oa_up2, ite_self, if_true, if_false, oa_10, oa_01, oa_neg4, oa_ifno, oa_l2, oa_l3, oa_l4, oa_l5, oa_l6, oa_l7, oa_l8, oa_l9, oa_l10, oa_l12, oa_l15, oa_l16, oa_l20, oa_l32, oa_l40, oa_l42, oa_l48, oa_l64, oa_l90, oa_l96, oa_l97, oa_l98, oa_l99, oa_l100, oa_l120, oa_l360, oa_l450, oa_l457, oa_l458, oa_l480, oa_l528]
          cases hwr : wy (M 1) n (s - 2 ^ l) i
          · rfl
          · have hb := wy_bit (by omega) (by omega) hwr
            have hbr : bt (nI (s - 2 ^ l)) i = true := by rw [bt_nI _ (by omega)]; exact hb
            simp (disch := (first | omega | assumption | decide)) only [hbr, md_age0, oa_ut, oa_bs, oa_lt, oa_ile, oa_inle, oa_ilt, oa_inlt, oa_ieq, oa_ineq, oa_rd_nI, oa_wr_nI, oa_rd_0, oa_rd_1, oa_wr_0, oa_wr_1, oa_rdL_nI, oa_wrL_nI, oa_bi_if0, oa_bi_if1, oa_zc_bi, oa_if_b0, oa_if_b1, nI_1, nI_add, pk_mul, Nat.add_assoc, Int32.add_zero, Int32.sub_zero, Int32.or_zero, Int32.and_neg_one, va_up_s, va_up_n, upd_s, oa_up2, ite_self, if_true, if_false, oa_10, oa_01, oa_neg4, oa_ifno, oa_l2, oa_l3, oa_l4, oa_l5, oa_l6, oa_l7, oa_l8, oa_l9, oa_l10, oa_l12, oa_l15, oa_l16, oa_l20, oa_l32, oa_l40, oa_l42, oa_l48, oa_l64, oa_l90, oa_l96, oa_l97, oa_l98, oa_l99, oa_l100, oa_l120, oa_l360, oa_l450, oa_l457, oa_l458, oa_l480, oa_l528]
            by_cases ha : 0 < M 1 (48 + (7 * i + l))
            · rw [if_neg (Int32.not_le.mpr ha), show an (M 1) i l = true from decide_eq_true ha]; rfl
            · rw [if_pos (Int32.not_lt.mp ha), show an (M 1) i l = false from decide_eq_false ha]; rfl
        · right
          refine ⟨_, rfl, fun k => ?_⟩
          have hxn : exb (fun r => wy (M 1) n (s - 2 ^ l) r && an (M 1) r l) n = true := by
            obtain ⟨r, r1, r2⟩ := exb_iff.mp hx
            exact exb_iff.mpr ⟨r, by omega, r2⟩
          rw [hxn]
          simp (disch := (first | omega | assumption | decide)) only [b_X7_layWays_51, md_many hn, oa_ut, oa_bs, oa_lt, oa_ile, oa_inle, oa_ilt, oa_inlt, oa_ieq, oa_ineq, oa_rd_nI, oa_wr_nI, oa_rd_0, oa_rd_1, oa_wr_0, oa_wr_1, oa_rdL_nI, oa_wrL_nI, oa_bi_if0, oa_bi_if1, oa_zc_bi, oa_if_b0, oa_if_b1, nI_1, nI_add, pk_mul, Nat.add_assoc, Int32.add_zero, Int32.sub_zero, Int32.or_zero, Int32.and_neg_one, va_up_s, va_up_n, upd_s, oa_up2, ite_self, if_true, if_false, oa_10, oa_01, oa_neg4, oa_ifno, oa_l2, oa_l3, oa_l4, oa_l5, oa_l6, oa_l7, oa_l8, oa_l9, oa_l10, oa_l12, oa_l15, oa_l16, oa_l20, oa_l32, oa_l40, oa_l42, oa_l48, oa_l64, oa_l90, oa_l96, oa_l97, oa_l98, oa_l99, oa_l100, oa_l120, oa_l360, oa_l450, oa_l457, oa_l458, oa_l480, oa_l528]
      · rintro t rfl
        refine ⟨_, rfl, fun k => ?_⟩
        simp (disch := (first | omega | assumption | decide)) only [b_X7_layWays_51, md_many hn, oa_ut, oa_bs, oa_lt, oa_ile, oa_inle, oa_ilt, oa_inlt, oa_ieq, oa_ineq, oa_rd_nI, oa_wr_nI, oa_rd_0, oa_rd_1, oa_wr_0, oa_wr_1, oa_rdL_nI, oa_wrL_nI, oa_bi_if0, oa_bi_if1, oa_zc_bi, oa_if_b0, oa_if_b1, nI_1, nI_add, pk_mul, Nat.add_assoc, Int32.add_zero, Int32.sub_zero, Int32.or_zero, Int32.and_neg_one, va_up_s, va_up_n, upd_s, oa_up2, ite_self, if_true, if_false, oa_10, oa_01, oa_neg4, oa_ifno, oa_l2, oa_l3, oa_l4, oa_l5, oa_l6, oa_l7, oa_l8, oa_l9, oa_l10, oa_l12, oa_l15, oa_l16, oa_l20, oa_l32, oa_l40, oa_l42, oa_l48, oa_l64, oa_l90, oa_l96, oa_l97, oa_l98, oa_l99, oa_l100, oa_l120, oa_l360, oa_l450, oa_l457, oa_l458, oa_l480, oa_l528]
    · have hw : wy (M 1) n s l = false := by
        rw [wy, if_neg e]
        by_cases c : s.testBit l = true
        · have c2 : l = fs s := by
            by_cases d : l = fs s
            · exact d
            · exact absurd ⟨c, d⟩ ht
          rw [dif_pos c, decide_eq_true c2]; rfl
        · rw [dif_neg c]
      rw [hw]
      generalize nI s &&& (((1 : Int32) <<< (nI l &&& 31)) ^^^ (-1)) = X
      unfold l_X7_layWays_51
      refine oa_for (fun _ => (0, 0)) 0 rfl (fun i hi => absurd hi (Nat.not_lt_zero i)) (fun k => ?_) oa_fu (by rw [oa_fu_eq]; omega)
      obtain ⟨f1, f2, f3⟩ := rg_fs s (by omega) hs0
      simp (disch := (first | omega | assumption | decide)) only [b_X7_layWays_51, md_many hn, hbt, oa_ut, oa_bs, oa_lt, oa_ile, oa_inle, oa_ilt, oa_inlt, oa_ieq, oa_ineq, oa_rd_nI, oa_wr_nI, oa_rd_0, oa_rd_1, oa_wr_0, oa_wr_1, oa_rdL_nI, oa_wrL_nI, oa_bi_if0, oa_bi_if1, oa_zc_bi, oa_if_b0, oa_if_b1, nI_1, nI_add, pk_mul, Nat.add_assoc, Int32.add_zero, Int32.sub_zero, Int32.or_zero, Int32.and_neg_one, va_up_s, va_up_n, upd_s, oa_up2, ite_self, if_true, if_false, oa_10, oa_01, oa_neg4, oa_ifno, oa_l2, oa_l3, oa_l4, oa_l5, oa_l6, oa_l7, oa_l8, oa_l9, oa_l10, oa_l12, oa_l15, oa_l16, oa_l20, oa_l32, oa_l40, oa_l42, oa_l48, oa_l64, oa_l90, oa_l96, oa_l97, oa_l98, oa_l99, oa_l100, oa_l120, oa_l360, oa_l450, oa_l457, oa_l458, oa_l480, oa_l528]
      by_cases c : s.testBit l = true
      · have c2 : l = fs s := by
          by_cases d : l = fs s
          · exact d
          · exact absurd ⟨c, d⟩ ht
        simp only [if_pos c, if_pos (show nI l = nI (fs s) by rw [← c2]), ite_self]
        rfl
      · simp only [if_neg c, ite_self]
        rfl
theorem md_layWays (hn : M 1 99 = nI n) (h6 : n ≤ 6) : ∃ Y, f_X7_layWays M K = some (va_up M 9 Y) ∧ TW (va_up M 9 Y) n (2 ^ n) := by
  have h64 := p2_le h6
  have hpos : 1 ≤ 2 ^ n := Nat.two_pow_pos n
  unfold f_X7_layWays l_X7_layWays_2
  refine oa_forK (fun o => ∃ Y, o = some (va_up M 9 Y) ∧ TW (va_up M 9 Y) n (2 ^ n)) (fun i t => ∃ Y, t = (va_up M 9 Y, nI (i + 1)) ∧ TW (va_up M 9 Y) n (i + 1)) (2 ^ n - 1) ⟨M 9, by rw [va_up_id]; rfl, fun s' h1 h2 => by omega⟩ ?_ ?_ oa_fu (by rw [oa_fu_eq]; omega)
  · rintro i hi t ⟨Y, rfl, hT⟩ k
    left
    have hM1 : ∀ Y : oa_P, va_up M 9 Y 1 = M 1 := fun Y => va_up_n _ _ (by omega)
    have hn' : ∀ Y : oa_P, va_up M 9 Y 1 99 = nI n := fun Y => by rw [hM1]; exact hn
    have hin : ∃ Y', l_X7_layWays_19 K (nI (i + 1)) (nI (fs (i + 1))) (fun M x1 => k (M, x1)) oa_fu (va_up M 9 Y) 0 = k (va_up M 9 Y', nI (i + 1 + 1)) ∧ TW (va_up M 9 Y') n (i + 1 + 1) := by
      unfold l_X7_layWays_19
      refine oa_forR (fun o => ∃ Y', o = k (va_up M 9 Y', nI (i + 1 + 1)) ∧ TW (va_up M 9 Y') n (i + 1 + 1)) (fun l t => ∃ Y', t = (va_up M 9 Y', nI l) ∧ TW (va_up M 9 Y') n (i + 1) ∧ ∀ l', l' < l → Y' (6 * (i + 1) + l') = oa_bi (wy (M 1) n (i + 1) l')) 6 ⟨Y, rfl, hT, fun l' hl' => absurd hl' (Nat.not_lt_zero l')⟩ ?_ ?_ oa_fu (by rw [oa_fu_eq]; omega)
      · rintro l hl t ⟨Y', rfl, hT', hd⟩
        left
        refine ⟨(va_up M 9 (upd Y' (6 * (i + 1) + l) (oa_bi (wy (M 1) n (i + 1) l))), nI (l + 1)), ⟨_, rfl, fun s' h1 h2 l' hl' => ?_, fun l' hl' => ?_⟩, fun kk => ?_⟩
        · have := hT' s' h1 h2 l' hl'
          rw [hM1] at this ⊢
          rw [va_up_s] at this ⊢
          rw [upd_n _ _ (by omega)]; exact this
        · by_cases e : l' = l
          · rw [e, upd_s]
          · rw [upd_n _ _ (by omega)]; exact hd l' (by omega)
        · simp only [oa_ut]
          rw [md_ways_in (hn' Y') h6 (by omega) (by omega) hl hT', hM1]
          unfold b_X7_layWays_130
          simp (disch := (first | omega | assumption | decide)) only [oa_bi_nar, oa_ut, oa_bs, oa_lt, oa_ile, oa_inle, oa_ilt, oa_inlt, oa_ieq, oa_ineq, oa_rd_nI, oa_wr_nI, oa_rd_0, oa_rd_1, oa_wr_0, oa_wr_1, oa_rdL_nI, oa_wrL_nI, oa_bi_if0, oa_bi_if1, oa_zc_bi, oa_if_b0, oa_if_b1, nI_1, nI_add, pk_mul, Nat.add_assoc, Int32.add_zero, Int32.sub_zero, Int32.or_zero, Int32.and_neg_one, va_up_s, va_up_n, upd_s, oa_up2, ite_self, if_true, if_false, oa_10, oa_01, oa_neg4, oa_ifno, oa_l2, oa_l3, oa_l4, oa_l5, oa_l6, oa_l7, oa_l8, oa_l9, oa_l10, oa_l12, oa_l15, oa_l16, oa_l20, oa_l32, oa_l40, oa_l42, oa_l48, oa_l64, oa_l90, oa_l96, oa_l97, oa_l98, oa_l99, oa_l100, oa_l120, oa_l360, oa_l450, oa_l457, oa_l458, oa_l480, oa_l528]
      · rintro t ⟨Y', rfl, hT', hd⟩
        refine ⟨k (va_up M 9 Y', nI (i + 1 + 1)), ⟨Y', rfl, fun s' h1 h2 l' hl' => ?_⟩, fun kk => ?_⟩
        · by_cases e : s' = i + 1
          · rw [e, hM1, va_up_s]; exact hd l' hl'
          · exact hT' s' h1 (by omega) l' hl'
        · simp (disch := (first | omega | assumption | decide)) only [b_X7_layWays_19, oa_ut, oa_bs, oa_lt, oa_ile, oa_inle, oa_ilt, oa_inlt, oa_ieq, oa_ineq, oa_rd_nI, oa_wr_nI, oa_rd_0, oa_rd_1, oa_wr_0, oa_wr_1, oa_rdL_nI, oa_wrL_nI, oa_bi_if0, oa_bi_if1, oa_zc_bi, oa_if_b0, oa_if_b1, nI_1, nI_add, pk_mul, Nat.add_assoc, Int32.add_zero, Int32.sub_zero, Int32.or_zero, Int32.and_neg_one, va_up_s, va_up_n, upd_s, oa_up2, ite_self, if_true, if_false, oa_10, oa_01, oa_neg4, oa_ifno, oa_l2, oa_l3, oa_l4, oa_l5, oa_l6, oa_l7, oa_l8, oa_l9, oa_l10, oa_l12, oa_l15, oa_l16, oa_l20, oa_l32, oa_l40, oa_l42, oa_l48, oa_l64, oa_l90, oa_l96, oa_l97, oa_l98, oa_l99, oa_l100, oa_l120, oa_l360, oa_l450, oa_l457, oa_l458, oa_l480, oa_l528]
    obtain ⟨Y', e1, e2⟩ := hin
    refine ⟨(va_up M 9 Y', nI (i + 1 + 1)), ⟨Y', rfl, e2⟩, ?_⟩
    simp only [oa_ut]
    unfold b_X7_layWays_2
    rw [md_many (hn' Y)]
    simp only [oa_bs]
    rw [oa_shl1 n h6, if_neg (nI_ge (by omega) (by omega)), md_leastOf (by omega) (by omega)]
    exact e1
  · rintro t ⟨Y, rfl, hT⟩ k
    have hn' : va_up M 9 Y 1 99 = nI n := by rw [va_up_n _ _ (by omega)]; exact hn
    rw [show 2 ^ n - 1 + 1 = 2 ^ n by omega] at hT ⊢
    refine ⟨Y, ?_, hT⟩
    simp only [oa_ut]
    unfold b_X7_layWays_2
    rw [md_many hn']
    simp only [oa_bs]
    rw [oa_shl1 n h6, if_pos (nI_le (Nat.le_refl _) (by omega))]
theorem md_isRing {s : Nat} (hn : M 1 99 = nI n) (h6 : n ≤ 6) (hs0 : 0 < s) (hs : s < 2 ^ n) (hp : 1 < pn s) (hT : TW M n (2 ^ n)) : f_X7_isRing M K (nI s) = some (oa_bi (rg (M 1) n s)) := by
  have h64 := p2_le h6
  obtain ⟨f1, f2, f3⟩ := rg_fs s (by omega) hs0
  have hfst : wy (M 1) n s (fs s) = false := by
    have hsg : ¬ s = 2 ^ fs s := fun e => by have := (rg_sg s (by omega) hs0).mpr e; omega
    rw [wy, if_neg hsg, dif_pos f2, decide_eq_true rfl]; rfl
  have hcond : ∀ l, l < 6 → ¬ l < n → wy (M 1) n s l = false := by
    intro l hl hln
    cases c : wy (M 1) n s l
    · rfl
    · exact absurd (rg_lt hs (wy_bit (by omega) hl c)) hln
  unfold f_X7_isRing
  rw [md_leastOf hs0 (by omega), oa_bs]
  unfold l_X7_isRing_7
  have hgoal : rg (M 1) n s = exb (fun r => wy (M 1) n s r && an (M 1) r (fs s)) 6 := by
    unfold rg
    rw [← exb_cut (f := fun r => wy (M 1) n s r && an (M 1) r (fs s)) 6 h6]
    cases c : exb (fun r => wy (M 1) n s r && an (M 1) r (fs s)) 6
    · rw [exb_false] at c ⊢
      intro k hk
      rw [c k hk, Bool.and_false]
    · obtain ⟨r, r1, r2⟩ := exb_iff.mp c
      refine exb_iff.mpr ⟨r, r1, ?_⟩
      by_cases l : r < n
      · rw [decide_eq_true l, r2]; rfl
      · rw [hcond r r1 l] at r2; cases r2
  rw [hgoal]
  refine oa_forR (fun o => o = some (oa_bi (exb (fun r => wy (M 1) n s r && an (M 1) r (fs s)) 6))) (fun i t => t = nI i ∧ exb (fun r => wy (M 1) n s r && an (M 1) r (fs s)) i = false) 6 ⟨rfl, rfl⟩ ?_ ?_ oa_fu (by rw [oa_fu_eq]; omega)
  · rintro i hi t ⟨rfl, he⟩
    have hrd := hT s hs0 hs i hi
    cases hw : wy (M 1) n s i
    · left
      refine ⟨nI (i + 1), ⟨rfl, by show (exb _ i || (wy (M 1) n s i && an (M 1) i (fs s))) = _; rw [he, hw]; rfl⟩, fun k => ?_⟩
      simp (disch := (first | omega | assumption | decide)) only [b_X7_isRing_7, hrd, hw, oa_ut, oa_bs, oa_lt, oa_ile, oa_inle, oa_ilt, oa_inlt, oa_ieq, oa_ineq, oa_rd_nI, oa_wr_nI, oa_rd_0, oa_rd_1, oa_wr_0, oa_wr_1, oa_rdL_nI, oa_wrL_nI, oa_bi_if0, oa_bi_if1, oa_zc_bi, oa_if_b0, oa_if_b1, nI_1, nI_add, pk_mul, Nat.add_assoc, Int32.add_zero, Int32.sub_zero, Int32.or_zero, Int32.and_neg_one, va_up_s, va_up_n, upd_s, oa_up2, ite_self, if_true, if_false, oa_10, oa_01, oa_neg4, oa_ifno, oa_l2, oa_l3, oa_l4, oa_l5, oa_l6, oa_l7, oa_l8, oa_l9, oa_l10, oa_l12, oa_l15, oa_l16, oa_l20, oa_l32, oa_l40, oa_l42, oa_l48, oa_l64, oa_l90, oa_l96, oa_l97, oa_l98, oa_l99, oa_l100, oa_l120, oa_l360, oa_l450, oa_l457, oa_l458, oa_l480, oa_l528]
      rfl
    · have hif : ¬ i = fs s := fun e => by rw [e, hfst] at hw; cases hw
      by_cases ha : 0 < M 1 (48 + (7 * i + fs s))
      · right
        refine ⟨some 1, ?_, fun k => ?_⟩
        · rw [exb_iff.mpr ⟨i, hi, by rw [hw, show an (M 1) i (fs s) = true from decide_eq_true ha]; rfl⟩]; rfl
        · simp (disch := (first | omega | assumption | decide)) only [b_X7_isRing_7, hrd, hw, md_age0, if_neg (Int32.not_le.mpr ha), oa_ut, oa_bs, oa_lt, oa_ile, oa_inle, oa_ilt, oa_inlt, oa_ieq, oa_ineq, oa_rd_nI, oa_wr_nI, oa_rd_0, oa_rd_1, oa_wr_0, oa_wr_1, oa_rdL_nI, oa_wrL_nI, oa_bi_if0, oa_bi_if1, oa_zc_bi, oa_if_b0, oa_if_b1, nI_1, nI_add, pk_mul, Nat.add_assoc, Int32.add_zero, Int32.sub_zero, Int32.or_zero, Int32.and_neg_one, va_up_s, va_up_n, upd_s, oa_up2, ite_self, if_true, if_false, oa_10, oa_01, oa_neg4, oa_ifno, oa_l2, oa_l3, oa_l4, oa_l5, oa_l6, oa_l7, oa_l8, oa_l9, oa_l10, oa_l12, oa_l15, oa_l16, oa_l20, oa_l32, oa_l40, oa_l42, oa_l48, oa_l64, oa_l90, oa_l96, oa_l97, oa_l98, oa_l99, oa_l100, oa_l120, oa_l360, oa_l450, oa_l457, oa_l458, oa_l480, oa_l528]
      · left
        refine ⟨nI (i + 1), ⟨rfl, by show (exb _ i || (wy (M 1) n s i && an (M 1) i (fs s))) = _; rw [he, hw, show an (M 1) i (fs s) = false from decide_eq_false ha]; rfl⟩, fun k => ?_⟩
        simp (disch := (first | omega | assumption | decide)) only [b_X7_isRing_7, hrd, hw, md_age0, if_pos (Int32.not_lt.mp ha), oa_ut, oa_bs, oa_lt, oa_ile, oa_inle, oa_ilt, oa_inlt, oa_ieq, oa_ineq, oa_rd_nI, oa_wr_nI, oa_rd_0, oa_rd_1, oa_wr_0, oa_wr_1, oa_rdL_nI, oa_wrL_nI, oa_bi_if0, oa_bi_if1, oa_zc_bi, oa_if_b0, oa_if_b1, nI_1, nI_add, pk_mul, Nat.add_assoc, Int32.add_zero, Int32.sub_zero, Int32.or_zero, Int32.and_neg_one, va_up_s, va_up_n, upd_s, oa_up2, ite_self, if_true, if_false, oa_10, oa_01, oa_neg4, oa_ifno, oa_l2, oa_l3, oa_l4, oa_l5, oa_l6, oa_l7, oa_l8, oa_l9, oa_l10, oa_l12, oa_l15, oa_l16, oa_l20, oa_l32, oa_l40, oa_l42, oa_l48, oa_l64, oa_l90, oa_l96, oa_l97, oa_l98, oa_l99, oa_l100, oa_l120, oa_l360, oa_l450, oa_l457, oa_l458, oa_l480, oa_l528]
  · rintro t ⟨rfl, he⟩
    refine ⟨some 0, by rw [he]; rfl, fun k => ?_⟩
    simp (disch := (first | omega | assumption | decide)) only [b_X7_isRing_7, oa_ut, oa_bs, oa_lt, oa_ile, oa_inle, oa_ilt, oa_inlt, oa_ieq, oa_ineq, oa_rd_nI, oa_wr_nI, oa_rd_0, oa_rd_1, oa_wr_0, oa_wr_1, oa_rdL_nI, oa_wrL_nI, oa_bi_if0, oa_bi_if1, oa_zc_bi, oa_if_b0, oa_if_b1, nI_1, nI_add, pk_mul, Nat.add_assoc, Int32.add_zero, Int32.sub_zero, Int32.or_zero, Int32.and_neg_one, va_up_s, va_up_n, upd_s, oa_up2, ite_self, if_true, if_false, oa_10, oa_01, oa_neg4, oa_ifno, oa_l2, oa_l3, oa_l4, oa_l5, oa_l6, oa_l7, oa_l8, oa_l9, oa_l10, oa_l12, oa_l15, oa_l16, oa_l20, oa_l32, oa_l40, oa_l42, oa_l48, oa_l64, oa_l90, oa_l96, oa_l97, oa_l98, oa_l99, oa_l100, oa_l120, oa_l360, oa_l450, oa_l457, oa_l458, oa_l480, oa_l528]
end RGM
