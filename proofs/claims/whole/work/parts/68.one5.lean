/-! a line that tells one, whole -/
section OI
variable {K : oa_J2} {t : Nat} {f : Nat → Nat} {n : Nat}
theorem one {T M V : oa_I2} {s e k : Nat} (h : TP t f T M) (ho : OKt t f T M s e k) (hc : RC M) (hX : TDX n 0 V (M 4)) (hV : V 5 0 = nI n) (h99 : M 4 99 = nI n) : OE t f n e T M V (f_X4_takeOne T V) ((f_X7_readOne M K).bind fun M13 => b_X7_readLine_111 K M13) := by
  have hn6 := hX.1
  unfold f_X4_takeOne f_X7_readOne
  rw [show (99 : Int32) = nI 99 from rfl, oa_rd_nI (by omega) (by omega), h99, hV]
  simp only [oa_bs, oa_lt]
  by_cases hn : n < 6
  · rw [if_pos (show nI n < 6 from nI_lt (b := 6) hn (by omega)), if_neg (show ¬ nI n = 6 from nI_neq (b := 6) (by omega) (by omega) (by omega))]
    obtain ⟨Y, y1, y2, T1, z1, z2⟩ := tokM (K := K) h ho
    have hS := FS_of z1
    have hTY := TP_G h (FC_of hS) (FG_of y2)
    have hcY := RC_G hc (FG_of y2)
    have d4 : Y 4 = M 4 := y2.1 4 (by omega)
    have hbr : ∀ {X Z : oa_I2} {x : Int32} {W : oa_I2}, FS T X → FM M Z → BRt t X Z → OE t f n e T M V (some (0, X, W)) ((b_X7_readOne_48 K Z (nI n) x).bind fun M13 => b_X7_readLine_111 K M13) := by
      intro X Z x W f1 f2 hb
      obtain ⟨g, g1, g2⟩ := br_48 (K := K) (x := x) hn hb (TP_G h (FC_of f1) (FG_of f2)) (RC_G hc (FG_of f2))
      rw [g1]
      simp only [oa_bs]
      rw [br_111 (BR_r hb (by omega))]
      refine ⟨X, W, _, FC_of f1, FG_trans (FG_of f2) (FG_r (Or.inr rfl)), rfl, Or.inr ⟨rfl, BR_r hb (by omega), n + 1, by omega, ?_⟩⟩
      rw [va_up_s, g2, f2.1 4 (by omega), h99, nI_1]
    rw [y1]
    simp only [oa_bs]
    rcases z2 with ⟨q1, s2, e2, k2, q2, q3⟩ | ⟨q1, q2⟩
    · obtain ⟨x, x1, x2⟩ := md_nameHere (K := K) hTY (OK_HM q2) hcY
      rw [x1, q1 V]
      simp only [oa_bs, oa_ut]
      rw [if_neg (show ¬ (1 : Int32) = 0 by decide)]
      by_cases hw : ∃ w, w < 5 ∧ x = nI (4 + w)
      · obtain ⟨w, w5, ew⟩ := hw
        rw [(cl_sort (V := V) hTY q2 x2).1 w w5 ew, ew, in_48 (4 + w) (by omega), decide_eq_true (show 4 ≤ 4 + w ∧ 4 + w ≤ 8 by omega)]
        simp only [oa_bs]
        rw [if_neg (show ¬ nI w = -4 from oa_no (by omega)), if_neg (show ¬ oa_bi true = 0 by decide), show (0 : Int32) = nI 0 from rfl, put_ok (by omega) hn]
        simp only [oa_bs]
        obtain ⟨Y2, a1, a2, a3⟩ := tokM (K := K) hTY q2
        have d42 : Y2 4 = M 4 := (a2.1 4 (by omega)).trans d4
        have hG : FG M (va_up Y2 4 (upd (Y2 4) (8 * n + 0) (nI w))) := FG_trans (FG_trans (FG_of y2) (FG_of a2)) (FG_r (Or.inr rfl))
        have e48 : b_X7_readOne_48 K Y (nI n) (nI (4 + w)) = oa_fix (o68 K n) oa_fu (va_up Y2 4 (upd (Y2 4) (8 * n + 0) (nI w)), nI (1 + 0)) := by
          unfold b_X7_readOne_48
          rw [a1]
          simp only [oa_bs]
          rw [show (8 : Int32) * nI n + 0 = nI (8 * n + 0) from i_8p n 0, oa_wr_nI (by omega) (by omega), show nI (4 + w) - 4 = nI (4 + w - 4) from pk_sub (b := 4) (by omega), Nat.add_sub_cancel_left]
          rfl
        have hm2 : MID t f e2 T1 (va_up Y2 4 (upd (Y2 4) (8 * n + 0) (nI w))) := by
          obtain ⟨X2, b1, b2⟩ := a3
          rcases b2 with ⟨p1, s3, e3, k3, p2, p3⟩ | ⟨p1, p2⟩
          · exact ⟨X2, b1, Or.inl ⟨p1, s3, e3, k3, OK_r p2 (by omega), p3⟩⟩
          · exact ⟨X2, b1, Or.inr ⟨p1, BR_r p2 (by omega)⟩⟩
        have hX2 : TDX n (1 + 0) (va_up V 1 (upd (V 1) (0 * 6 + n) (nI w))) (va_up Y2 4 (upd (Y2 4) (8 * n + 0) (nI w)) 4) := by
          rw [va_up_s, d42]
          exact TDX_trait (m := 0) (x := nI w) hX hn (by omega) ⟨fun _ => ⟨w, by omega, rfl⟩, fun c _ => by omega, fun c => by omega, fun c => by omega⟩
        have key := traits (K := K) hn 4 0 oa_fu oa_fu T1 (va_up V 1 (upd (V 1) (0 * 6 + n) (nI w))) (va_up Y2 4 (upd (Y2 4) (8 * n + 0) (nI w))) e2 (by omega) (by rw [oa_fu_eq]; omega) (by rw [oa_fu_eq]; omega) (TP_G h (FC_of hS) hG) hm2 (RC_G hc hG) hX2 (by rw [va_up_n _ _ (by omega)]; exact hV) (by rw [va_up_s, upd_n _ _ (by omega), d42]; exact h99)
        rw [e48]
        refine OE_up hS hG ((va_up_n _ _ (by omega)).trans ((a2.1 3 (by omega)).trans (y2.1 3 (by omega)))) ?_ (va_up_n _ _ (by omega)) (by have := o_e q2; omega) key
        rw [va_up_n _ _ (by omega)]; exact (a2.2 8 (by omega)).trans (y2.2 8 (by omega))
      · have hnw : ∀ w, w < 5 → ¬ x = nI (4 + w) := fun w w5 c => hw ⟨w, w5, c⟩
        have hin : f_X7_in x.toInt64 4 8 = some (oa_bi false) := by
          rcases x2 with ⟨j, j13, c, _⟩ | ⟨c, _⟩
          · rw [c, in_48 j j13, decide_eq_false (fun q => hnw (j - 4) (by omega) (by rw [c, show 4 + (j - 4) = j by omega]))]
          · rw [c, in_48n]
        obtain ⟨T2, M2, r1, r2, r3, r4, r5⟩ := both_mis (K := K) (V := V) q2
        rw [(cl_sort (V := V) hTY q2 x2).2 hnw, hin]
        simp only [oa_bs]
        rw [if_pos trivial, if_pos (show oa_bi false = 0 from rfl), r1, r2]
        simp only [oa_bs]
        exact hbr (FS_trans hS (FS_of r3)) (FM_trans y2 r4) r5
    · obtain ⟨_, s2, e2, k2, hHM⟩ := id q2
      obtain ⟨x, x1, x2⟩ := md_nameHere (K := K) hTY hHM hcY
      obtain ⟨b, hb⟩ : ∃ b, f_X7_in x.toInt64 4 8 = some b := by
        rcases x2 with ⟨j, j13, c, _⟩ | ⟨c, _⟩
        · rw [c, in_48 j j13]; exact ⟨_, rfl⟩
        · rw [c, in_48n]; exact ⟨_, rfl⟩
      rw [x1, q1 V]
      simp only [oa_bs]
      rw [hb, br_fails q2]
      simp only [oa_bs, ite_self]
      exact hbr hS y2 q2
  · have : n = 6 := by omega
    subst this
    obtain ⟨T2, M2, r1, r2, r3, r4, r5⟩ := both_fail (K := K) (V := V) (c := 5) (x := 5) ho (by omega) (by omega) rfl
    rw [if_neg (show ¬ nI 6 < 6 by decide), if_pos (show nI 6 = 6 from rfl), r1, r2]
    simp only [oa_bs]
    rw [br_111 r5]
    exact ⟨T2, V, M2, FC_of (FS_of r3), FG_of r4, rfl, Or.inr ⟨rfl, r5, 6, by omega, by rw [r4.1 4 (by omega)]; exact h99⟩⟩
end OI
