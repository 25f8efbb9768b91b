/-! sheets, the tape -/
def btL (x : Int64) (i : Nat) : Bool := x.toBitVec.getLsbD i
theorem sL_l : ∀ n, n < 64 → ((Int32.toInt64 (nI n) &&& 63).toBitVec.smod 64).toNat = n := by decide +kernel
theorem sL_u : ∀ n, n < 64 → ((Int64.toUInt64 (Int32.toInt64 (nI n)) &&& Int64.toUInt64 63).toBitVec % 64).toNat = n := by decide +kernel
theorem bL_ushr (n : Nat) (hn : n < 64) (x : Int64) (i : Nat) : btL ((x.toUInt64 >>> (Int64.toUInt64 (Int32.toInt64 (nI n)) &&& Int64.toUInt64 63)).toInt64) i = btL x (n + i) := by
  show (x.toUInt64 >>> (Int64.toUInt64 (Int32.toInt64 (nI n)) &&& Int64.toUInt64 63)).toBitVec.getLsbD i = x.toUInt64.toBitVec.getLsbD (n + i)
  rw [UInt64.toBitVec_shiftRight]
  show (x.toUInt64.toBitVec >>> ((Int64.toUInt64 (Int32.toInt64 (nI n)) &&& Int64.toUInt64 63).toBitVec % 64).toNat).getLsbD i = _
  rw [sL_u n hn, BitVec.getLsbD_ushiftRight]
theorem bL_sshr (n : Nat) (hn : n < 64) (x : Int64) {i : Nat} (hi : i < 64) : btL (x >>> (Int32.toInt64 (nI n) &&& 63)) i = if n + i < 64 then btL x (n + i) else btL x 63 := by
  unfold btL
  rw [Int64.toBitVec_shiftRight]
  show (x.toBitVec.sshiftRight ((Int32.toInt64 (nI n) &&& 63).toBitVec.smod 64).toNat).getLsbD i = _
  rw [sL_l n hn, BitVec.getLsbD_sshiftRight, BitVec.msb_eq_getLsbD_last]
  simp [hi]
theorem bt_ofL (x : Int64) {i : Nat} (hi : i < 32) : bt x.toInt32 i = btL x i := by
  unfold bt btL
  rw [Int64.toBitVec_toInt32, BitVec.getLsbD_signExtend]
  simp [hi, show i < 64 by omega]
theorem oa_byte (x : Int64) {c : Nat} (hc : c ≤ 56) : (Int64.toInt32 ((Int64.toUInt64 x >>> (Int64.toUInt64 (Int32.toInt64 (nI c)) &&& Int64.toUInt64 63)).toInt64)) &&& 255 = (Int64.toInt32 (x >>> (Int32.toInt64 (nI c) &&& 63))) &&& 255 := by
  apply b_ext
  intro i hi
  rw [b_and, b_and, b_255, bt_ofL _ hi, bt_ofL _ hi]
  by_cases h : i < 8
  · rw [bL_ushr c (by omega), bL_sshr c (by omega) _ (by omega), if_pos (by omega)]
  · simp [h]
theorem oa_255 (y : Int32) : ∃ b : Nat, b < 256 ∧ y &&& 255 = nI b := by
  refine ⟨(y &&& 255).toBitVec.toNat, ?_, ?_⟩
  · rw [Int32.toBitVec_and, BitVec.toNat_and]
    have : (255 : Int32).toBitVec.toNat = 255 := by decide
    rw [this]
    exact Nat.lt_of_le_of_lt Nat.and_le_right (by omega)
  · apply Int32.toBitVec_inj.mp
    show _ = BitVec.ofNat 32 _
    rw [BitVec.ofNat_toNat, BitVec.setWidth_eq]
theorem oa_low8 (x : Int32) : (Int32.toInt8 x).toInt32 = (x <<< ((24 : Int32) &&& 31)) >>> ((24 : Int32) &&& 31) := by
  apply b_ext
  intro i hi
  have e1 : bt ((x <<< ((24 : Int32) &&& 31)) >>> ((24 : Int32) &&& 31)) i = if 24 + i < 32 then bt (x <<< ((24 : Int32) &&& 31)) (24 + i) else bt (x <<< ((24 : Int32) &&& 31)) 31 := b_sshr 24 (by omega) _ hi
  have e2 : bt (Int32.toInt8 x).toInt32 i = if i < 8 then bt x i else bt x 7 := by
    unfold bt
    have hm : (BitVec.signExtend 8 x.toBitVec).msb = x.toBitVec.getLsbD 7 := by
      rw [BitVec.msb_eq_getLsbD_last, BitVec.getLsbD_signExtend]; simp
    rw [Int8.toBitVec_toInt32, Int32.toBitVec_toInt8, BitVec.getLsbD_signExtend, BitVec.getLsbD_signExtend, hm]
    by_cases h : i < 8
    · simp [hi, h]
    · simp [hi, h]
  rw [e1, e2]
  by_cases h : i < 8
  · rw [if_pos h, if_pos (by omega), b_shl24 _ (by omega), Nat.add_sub_cancel_left]
    simp
  · rw [if_neg h, if_neg (by omega), b_shl24 _ (by omega)]
    simp
theorem oa_low16 (x : Int32) : (Int32.toInt16 x).toInt32 = (x <<< ((16 : Int32) &&& 31)) >>> ((16 : Int32) &&& 31) := by
  apply b_ext
  intro i hi
  have e1 : bt ((x <<< ((16 : Int32) &&& 31)) >>> ((16 : Int32) &&& 31)) i = if 16 + i < 32 then bt (x <<< ((16 : Int32) &&& 31)) (16 + i) else bt (x <<< ((16 : Int32) &&& 31)) 31 := b_sshr 16 (by omega) _ hi
  have e2 : bt (Int32.toInt16 x).toInt32 i = if i < 16 then bt x i else bt x 15 := by
    unfold bt
    have hm : (BitVec.signExtend 16 x.toBitVec).msb = x.toBitVec.getLsbD 15 := by
      rw [BitVec.msb_eq_getLsbD_last, BitVec.getLsbD_signExtend]; simp
    rw [Int16.toBitVec_toInt32, Int32.toBitVec_toInt16, BitVec.getLsbD_signExtend, BitVec.getLsbD_signExtend, hm]
    by_cases h : i < 16
    · simp [hi, h]
    · simp [hi, h]
  rw [e1, e2]
  by_cases h : i < 16
  · rw [if_pos h, if_pos (by omega), b_shl16 _ (by omega), Nat.add_sub_cancel_left]
    simp
  · rw [if_neg h, if_neg (by omega), b_shl16 _ (by omega)]
    simp
theorem oa_hasT {x : Int32} {n : Nat} (hn : n < 2 ^ 31) (h : oa_wi x 0 (nI n - 1) = true) : ∃ j, j < n ∧ x = nI j := by
  rcases n with _ | n
  · unfold oa_wi at h
    rw [Bool.and_eq_true, decide_eq_true_eq, decide_eq_true_eq] at h
    exact absurd (Int32.le_trans h.1 h.2) (by decide)
  · rw [nI_pred] at h
    obtain ⟨j, _, h2, h3⟩ := oa_wi_t (a := 0) (by omega) h (by omega)
    exact ⟨j, by omega, h3⟩
theorem oa_hasN {n j : Nat} (hn : n < 2 ^ 31) (h : j < n) : oa_wi (nI j) 0 (nI n - 1) = true := by
  rcases n with _ | n
  · omega
  · rw [nI_pred]
    exact oa_wi_n (a := 0) (by omega) (by omega) (by omega)
section C6
variable {B : oa_I3} {J : oa_J2} {M : oa_I2} {K : oa_J2}
/-- a change of a sheet alone -/
theorem Rel_sheet {B' : oa_I3} {M' : oa_I2} {k : Nat} (h : Rel B M) (hk : k < 4) (hB : ∀ a, a ≠ 7 + k → B' a = B a) (hM : ∀ a, a ≠ 12 → a ≠ 13 → a ≠ 14 → M' a = M a) (hs : RS (B' (7 + k)) M' k) (ho : ∀ j, j ≠ k → j < 4 → M' 12 j = M 12 j ∧ M' 13 j = M 13 j ∧ ∀ i, i < 40 → M' 14 (40 * j + i) = M 14 (40 * j + i)) : Rel B' M' := by
  obtain ⟨n, L, h1, h2, h3, h4, h5, h6, h7⟩ := h
  refine ⟨n, L, ?_, ?_, fun j hj => ?_, ?_, ?_, fun j hj => ?_, ?_⟩
  · rw [hM 2 (by omega) (by omega) (by omega)]; exact h1
  · rw [hM 2 (by omega) (by omega) (by omega), hM 1 (by omega) (by omega) (by omega), hB 0 (by omega)]; exact h2
  · unfold oa_pg
    rw [hM 11 (by omega) (by omega) (by omega), hM 2 (by omega) (by omega) (by omega), hM 1 (by omega) (by omega) (by omega), hB 6 (by omega), hB (3 + j) (by omega)]
    exact h3 j hj
  · rw [hB 5 (by omega)]
    unfold RT
    rw [hM 0 (by omega) (by omega) (by omega), hM 5 (by omega) (by omega) (by omega)]
    exact h4
  · rw [hB 6 (by omega), hM 0 (by omega) (by omega) (by omega)]; exact h5
  · by_cases e : j = k
    · rw [e]; exact hs
    · rw [hB (7 + j) (by omega)]
      obtain ⟨o1, o2, o3⟩ := ho j e hj
      unfold RS
      rw [o1, o2]
      rcases h6 j hj with g | ⟨s, l, s1, s2, s3, s4, s5, s6, s7⟩
      · exact Or.inl g
      · exact Or.inr ⟨s, l, s1, s2, s3, s4, s5, s6, fun i hi => (s7 i hi).trans (o3 i hi).symm⟩
  · unfold RC
    rw [hM 6 (by omega) (by omega) (by omega), hM 7 (by omega) (by omega) (by omega)]; exact h7
def rnw (S : oa_I2) (l s : Int32) : oa_I2 := va_up (va_up (va_up S 0 (oa_fill 40 0 (S 0))) 1 (upd (S 1) 1 l)) 1 (upd (upd (S 1) 1 l) 0 s)
theorem f_renew (S : oa_I2) (l s : Int32) : f_X3_renew S l s = some (rnw S l s) := rfl
theorem c_sheet (h : Rel B M) (x y z : Int32) : ∃ a B' M', f_X6_sheet B J x y z = some (a, B') ∧ f_X7_sheet M K x y z = some (a, M') ∧ Rel B' M' := by
  have h0 := h
  unfold f_X6_sheet f_X7_sheet
  simp (disch := (first | omega | assumption | decide)) only [f_within, f_in_0_1, f_in_0_2, f_in_0_3, f_in_0_4, f_in_0_6, f_in_0_7, f_in_0_12, f_in_0_20, f_in_0_99, f_in_1_4, f_in_1_99, f_renew, oa_ut, oa_bs, oa_lt, oa_ile, oa_inle, oa_ilt, oa_inlt, oa_ieq, oa_ineq, oa_rd_0, oa_rd_1, oa_wr_0, oa_wr_1, oa_rdL_nI, oa_wrL_nI, oa_bi_if0, oa_bi_if1, oa_zc_bi, oa_if_b0, oa_if_b1, nI_1, nI_add, pk_mul, Nat.add_assoc, Int32.add_zero, Int32.sub_zero, Int32.or_zero, Int32.and_neg_one, ite_self, if_true, if_false, oa_10, oa_01, oa_neg4, oa_ifno, oa_l2, oa_l3, oa_l4, oa_l5, oa_l6, oa_l7, oa_l8, oa_l9, oa_l10, oa_l12, oa_l15, oa_l16, oa_l20, oa_l32, oa_l40, oa_l42, oa_l48, oa_l64, oa_l90, oa_l96, oa_l97, oa_l98, oa_l99, oa_l100, oa_l120, oa_l360, oa_l450, oa_l457, oa_l458, oa_l480, oa_l528]
  cases hx : oa_wi x 0 (nI 3)
  · exact ⟨_, _, _, rfl, rfl, h0⟩
  obtain ⟨k, _, k2, rfl⟩ := oa_wi_t (a := 0) (by omega) hx (by omega)
  cases hy : oa_wi y 0 (nI 2)
  · exact ⟨_, _, _, rfl, rfl, h0⟩
  obtain ⟨l, _, l2, rfl⟩ := oa_wi_t (a := 0) (by omega) hy (by omega)
  by_cases z1 : z ≤ nI 40
  case neg => simp only [if_true, if_neg z1]; exact ⟨_, _, _, rfl, rfl, h0⟩
  by_cases z2 : 0 ≤ z
  case neg => simp only [if_true, if_pos z1, if_neg z2]; exact ⟨_, _, _, rfl, rfl, h0⟩
  obtain ⟨s, s1, rfl⟩ := nI_of (Int32.not_lt.mpr z2)
  have s2 : s ≤ 40 := (nI_leI s1 (by omega)).mp z1
  have hm : l_X7_sheet_56 K (nI k) (nI l) (nI s) oa_fu (va_up (va_up M 12 (upd (M 12) k (nI l))) 13 (upd (M 13) k (nI s))) 0 = some (1, va_up (va_up (va_up M 12 (upd (M 12) k (nI l))) 13 (upd (M 13) k (nI s))) 14 (fun j => if 40 * k ≤ j ∧ j < 40 * k + 40 then 0 else M 14 j)) := by
    unfold l_X7_sheet_56
    refine oa_for (fun i => (va_up (va_up (va_up M 12 (upd (M 12) k (nI l))) 13 (upd (M 13) k (nI s))) 14 (fun j => if 40 * k ≤ j ∧ j < 40 * k + i then 0 else M 14 j), nI i)) 40 ?_ ?_ ?_ oa_fu (by rw [oa_fu_eq]; omega)
    · refine Prod.ext ?_ rfl
      funext a
      dsimp only
      by_cases e : a = 14
      · subst e
        rw [va_up_s]
        funext j
        show M 14 j = _
        rw [if_neg (by omega)]
      · rw [va_up_n _ _ e]
    · intro i hi kk
      simp (disch := (first | omega | assumption | decide)) only [b_X7_sheet_56, oa_ut, oa_bs, oa_lt, oa_ile, oa_inle, oa_ilt, oa_inlt, oa_ieq, oa_ineq, oa_rd_nI, oa_wr_nI, oa_rd_0, oa_rd_1, oa_wr_0, oa_wr_1, oa_rdL_nI, oa_wrL_nI, oa_bi_if0, oa_bi_if1, oa_zc_bi, oa_if_b0, oa_if_b1, nI_1, nI_add, pk_mul, Nat.add_assoc, Int32.add_zero, Int32.sub_zero, Int32.or_zero, Int32.and_neg_one, va_up_s, va_up_n, upd_s, oa_up2, ite_self, if_true, if_false, oa_10, oa_01, oa_neg4, oa_ifno, oa_l2, oa_l3, oa_l4, oa_l5, oa_l6, oa_l7, oa_l8, oa_l9, oa_l10, oa_l12, oa_l15, oa_l16, oa_l20, oa_l32, oa_l40, oa_l42, oa_l48, oa_l64, oa_l90, oa_l96, oa_l97, oa_l98, oa_l99, oa_l100, oa_l120, oa_l360, oa_l450, oa_l457, oa_l458, oa_l480, oa_l528]
      refine congrArg kk (Prod.ext ?_ rfl)
      refine congrArg (va_up _ 14) ?_
      funext j
      show (if j = 40 * k + i then (0 : Int32) else if 40 * k ≤ j ∧ j < 40 * k + i then 0 else M 14 j) = _
      by_cases e : j = 40 * k + i
      · rw [if_pos e, if_pos (by omega)]
      · rw [if_neg e]
        by_cases e2 : 40 * k ≤ j ∧ j < 40 * k + i
        · rw [if_pos e2, if_pos (by omega)]
        · rw [if_neg e2, if_neg (by omega)]
    · intro kk
      simp (disch := (first | omega | assumption | decide)) only [b_X7_sheet_56, oa_ut, oa_bs, oa_lt, oa_ile, oa_inle, oa_ilt, oa_inlt, oa_ieq, oa_ineq, oa_rd_nI, oa_wr_nI, oa_rd_0, oa_rd_1, oa_wr_0, oa_wr_1, oa_rdL_nI, oa_wrL_nI, oa_bi_if0, oa_bi_if1, oa_zc_bi, oa_if_b0, oa_if_b1, nI_1, nI_add, pk_mul, Nat.add_assoc, Int32.add_zero, Int32.sub_zero, Int32.or_zero, Int32.and_neg_one, va_up_s, va_up_n, upd_s, oa_up2, ite_self, if_true, if_false, oa_10, oa_01, oa_neg4, oa_ifno, oa_l2, oa_l3, oa_l4, oa_l5, oa_l6, oa_l7, oa_l8, oa_l9, oa_l10, oa_l12, oa_l15, oa_l16, oa_l20, oa_l32, oa_l40, oa_l42, oa_l48, oa_l64, oa_l90, oa_l96, oa_l97, oa_l98, oa_l99, oa_l100, oa_l120, oa_l360, oa_l450, oa_l457, oa_l458, oa_l480, oa_l528]
  have hrel : Rel (va_up B (7 + k) (rnw (B (7 + k)) (nI l) (nI s))) (va_up (va_up (va_up M 12 (upd (M 12) k (nI l))) 13 (upd (M 13) k (nI s))) 14 (fun j => if 40 * k ≤ j ∧ j < 40 * k + 40 then 0 else M 14 j)) := by
    refine Rel_sheet (k := k) h0 (by omega) (fun a ha => va_up_n _ _ ha) (fun a a1 a2 a3 => by rw [va_up_n _ _ a3, va_up_n _ _ a2, va_up_n _ _ a1]) ?_ (fun j j1 j2 => ⟨?_, ?_, fun i hi => ?_⟩)
    · refine Or.inr ⟨s, l, s2, l2, ?_, ?_, ?_, ?_, fun i hi => ?_⟩
      · rw [va_up_s]; rfl
      · rw [va_up_n _ _ (by omega), va_up_s, upd_s]
      · rw [va_up_s]; rfl
      · rw [va_up_n _ _ (by omega), va_up_n _ _ (by omega), va_up_s, upd_s]
      · rw [va_up_s, va_up_s, if_pos (by omega)]
        show oa_fill 40 0 (B (7 + k) 0) i = 0
        unfold oa_fill
        rw [if_pos hi]
    · rw [va_up_n _ _ (by omega), va_up_n _ _ (by omega), va_up_s, upd_n _ _ j1]
    · rw [va_up_n _ _ (by omega), va_up_s, upd_n _ _ j1]
    · rw [va_up_s, if_neg (by omega)]
  simp (disch := (first | omega | assumption | decide)) only [oa_wr_nI, va_up_n, if_pos z1, if_pos z2, hm, oa_ut, oa_bs, oa_lt, oa_ile, oa_inle, oa_ilt, oa_inlt, oa_ieq, oa_ineq, oa_rd_0, oa_rd_1, oa_wr_0, oa_wr_1, oa_rdL_nI, oa_wrL_nI, oa_bi_if0, oa_bi_if1, oa_zc_bi, oa_if_b0, oa_if_b1, nI_1, nI_add, pk_mul, Nat.add_assoc, Int32.add_zero, Int32.sub_zero, Int32.or_zero, Int32.and_neg_one, ite_self, if_true, if_false, oa_10, oa_01, oa_neg4, oa_ifno, oa_l2, oa_l3, oa_l4, oa_l5, oa_l6, oa_l7, oa_l8, oa_l9, oa_l10, oa_l12, oa_l15, oa_l16, oa_l20, oa_l32, oa_l40, oa_l42, oa_l48, oa_l64, oa_l90, oa_l96, oa_l97, oa_l98, oa_l99, oa_l100, oa_l120, oa_l360, oa_l450, oa_l457, oa_l458, oa_l480, oa_l528]
  by_cases e0 : k = 0
  · subst e0; exact ⟨_, _, _, rfl, rfl, hrel⟩
  by_cases e1 : k = 1
  · subst e1; exact ⟨_, _, _, rfl, rfl, hrel⟩
  by_cases e2 : k = 2
  · subst e2; exact ⟨_, _, _, rfl, rfl, hrel⟩
  obtain rfl : k = 3 := by omega
  exact ⟨_, _, _, rfl, rfl, hrel⟩
end C6
