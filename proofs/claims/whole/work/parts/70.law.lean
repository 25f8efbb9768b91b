/-! the law's loop over class and model in step (written by wip/whole/pure/mk70.py) -/
theorem lg_self (a : Int64) : lg_cmp a a = 0 := by unfold lg_cmp; rw [if_neg (show ¬ a > a from Int64.lt_irrefl), if_pos rfl]
theorem oa_law_ok (xs : Nat → Int32) (L : Nat) (hL : L ≤ 2560) (B0 : oa_I3) (J0 : oa_J2) (M0 : oa_I2) (K0 : oa_J2) (h0 : Rel B0 M0) : oa_fix (fun k => oa_u fun (B : oa_I3) => oa_u fun (J : oa_J2) => oa_u fun (M : oa_I2) => oa_u fun (K : oa_J2) (x3 : Int32) => b_law xs L (fun B J M K x3 => k (B, J, M, K, x3)) B J M K x3) oa_fu (B0, J0, M0, K0, 0) = some 1 := by
  refine oa_forR (fun o => o = some 1) (fun i s => ∃ B J M K, s = (B, J, M, K, nI (5 * i)) ∧ Rel B M) (L / 5) ⟨B0, J0, M0, K0, rfl, h0⟩ ?_ ?_ oa_fu (by rw [oa_fu_eq]; omega)
  · rintro i hi s ⟨B, J, M, K, rfl, h⟩
    left
    have hc : ¬ nI L - 5 < nI (5 * i) := by
      rw [show (5 : Int32) = nI 5 from rfl, pk_sub (by omega)]
      exact nI_nlt (by omega) (by omega)
    have r0 : oa_rd xs L (nI (5 * i)) = some (xs (5 * i)) := oa_rd_nI (by omega) (by omega)
    have r1 : oa_rd xs L (nI (5 * i) + 1) = some (xs (5 * i + 1)) := by
      rw [show (1 : Int32) = nI 1 from rfl, nI_add]
      exact oa_rd_nI (by omega) (by omega)
    have r2 : oa_rd xs L (nI (5 * i) + 2) = some (xs (5 * i + 2)) := by
      rw [show (2 : Int32) = nI 2 from rfl, nI_add]
      exact oa_rd_nI (by omega) (by omega)
    have r3 : oa_rd xs L (nI (5 * i) + 3) = some (xs (5 * i + 3)) := by
      rw [show (3 : Int32) = nI 3 from rfl, nI_add]
      exact oa_rd_nI (by omega) (by omega)
    have r4 : oa_rd xs L (nI (5 * i) + 4) = some (xs (5 * i + 4)) := by
      rw [show (4 : Int32) = nI 4 from rfl, nI_add]
      exact oa_rd_nI (by omega) (by omega)
    have e5 : nI (5 * i) + 5 = nI (5 * (i + 1)) := by
      rw [show (5 : Int32) = nI 5 from rfl, nI_add]; rfl
    generalize hop : xs (5 * i) &&& 63 = op
    by_cases o0 : op = 0
    · obtain ⟨a, B', M', e1, e2, hr⟩ := c_feed (J := J) (K := K) h (((Int32.toInt64 (xs (5 * i + 1))) <<< (Int32.toInt64 (32 : Int32) &&& 63)) ||| ((Int32.toInt64 (xs (5 * i + 2))) &&& 4294967295))
      refine ⟨_, ⟨B', J, M', K, rfl, hr⟩, fun k => ?_⟩
      simp only [oa_ut]
      rw [b_law, if_neg hc, r0]
      simp only [oa_bs, hop, o0]
      rw [if_true]
      simp only [r1, r2, oa_bs, oa_ut, e1, e2, lg_self, if_true, e5]
    by_cases o1 : op = 1
    · obtain ⟨a, B', M', e1, e2, hr⟩ := c_end (J := J) (K := K) h (xs (5 * i + 1))
      refine ⟨_, ⟨B', J, M', K, rfl, hr⟩, fun k => ?_⟩
      simp only [oa_ut]
      rw [b_law, if_neg hc, r0]
      simp only [oa_bs, hop, o1]
      rw [if_neg (show ¬ (1 : Int32) = 0 by decide), if_true]
      simp only [r1, oa_bs, oa_ut, e1, e2, lg_self, if_true, e5]
    by_cases o2 : op = 2
    · obtain ⟨a, B', M', e1, e2, hr⟩ := c_village (J := J) (K := K) h
      refine ⟨_, ⟨B', J, M', K, rfl, hr⟩, fun k => ?_⟩
      simp only [oa_ut]
      rw [b_law, if_neg hc, r0]
      simp only [oa_bs, hop, o2]
      rw [if_neg (show ¬ (2 : Int32) = 0 by decide), if_neg (show ¬ (2 : Int32) = 1 by decide), if_true]
      simp only [oa_bs, oa_ut, e1, e2, lg_self, if_true, e5]
    by_cases o3 : op = 3
    · obtain ⟨a, e1, e2⟩ := c_fault (J := J) (K := K) h
      refine ⟨_, ⟨B, J, M, K, rfl, h⟩, fun k => ?_⟩
      simp only [oa_ut]
      rw [b_law, if_neg hc, r0]
      simp only [oa_bs, hop, o3]
      rw [if_neg (show ¬ (3 : Int32) = 0 by decide), if_neg (show ¬ (3 : Int32) = 1 by decide), if_neg (show ¬ (3 : Int32) = 2 by decide), if_true]
      simp only [oa_bs, oa_ut, e1, e2, lg_self, if_true, e5]
    by_cases o4 : op = 4
    · obtain ⟨a, e1, e2⟩ := c_rule (J := J) (K := K) h (xs (5 * i + 1))
      refine ⟨_, ⟨B, J, M, K, rfl, h⟩, fun k => ?_⟩
      simp only [oa_ut]
      rw [b_law, if_neg hc, r0]
      simp only [oa_bs, hop, o4]
      rw [if_neg (show ¬ (4 : Int32) = 0 by decide), if_neg (show ¬ (4 : Int32) = 1 by decide), if_neg (show ¬ (4 : Int32) = 2 by decide), if_neg (show ¬ (4 : Int32) = 3 by decide), if_true]
      simp only [r1, oa_bs, oa_ut, e1, e2, lg_self, if_true, e5]
    by_cases o5 : op = 5
    · obtain ⟨a, e1, e2⟩ := c_one (J := J) (K := K) h (xs (5 * i + 1)) (xs (5 * i + 2))
      refine ⟨_, ⟨B, J, M, K, rfl, h⟩, fun k => ?_⟩
      simp only [oa_ut]
      rw [b_law, if_neg hc, r0]
      simp only [oa_bs, hop, o5]
      rw [if_neg (show ¬ (5 : Int32) = 0 by decide), if_neg (show ¬ (5 : Int32) = 1 by decide), if_neg (show ¬ (5 : Int32) = 2 by decide), if_neg (show ¬ (5 : Int32) = 3 by decide), if_neg (show ¬ (5 : Int32) = 4 by decide), if_true]
      simp only [r1, r2, oa_bs, oa_ut, e1, e2, lg_self, if_true, e5]
    by_cases o6 : op = 6
    · obtain ⟨a, B', M', e1, e2, hr⟩ := c_set (J := J) (K := K) h (xs (5 * i + 1)) (xs (5 * i + 2)) (xs (5 * i + 3))
      refine ⟨_, ⟨B', J, M', K, rfl, hr⟩, fun k => ?_⟩
      simp only [oa_ut]
      rw [b_law, if_neg hc, r0]
      simp only [oa_bs, hop, o6]
      rw [if_neg (show ¬ (6 : Int32) = 0 by decide), if_neg (show ¬ (6 : Int32) = 1 by decide), if_neg (show ¬ (6 : Int32) = 2 by decide), if_neg (show ¬ (6 : Int32) = 3 by decide), if_neg (show ¬ (6 : Int32) = 4 by decide), if_neg (show ¬ (6 : Int32) = 5 by decide), if_true]
      simp only [r1, r2, r3, oa_bs, oa_ut, e1, e2, lg_self, if_true, e5]
    by_cases o7 : op = 7
    · obtain ⟨a, e1, e2⟩ := c_old (J := J) (K := K) h (xs (5 * i + 1)) (xs (5 * i + 2))
      refine ⟨_, ⟨B, J, M, K, rfl, h⟩, fun k => ?_⟩
      simp only [oa_ut]
      rw [b_law, if_neg hc, r0]
      simp only [oa_bs, hop, o7]
      rw [if_neg (show ¬ (7 : Int32) = 0 by decide), if_neg (show ¬ (7 : Int32) = 1 by decide), if_neg (show ¬ (7 : Int32) = 2 by decide), if_neg (show ¬ (7 : Int32) = 3 by decide), if_neg (show ¬ (7 : Int32) = 4 by decide), if_neg (show ¬ (7 : Int32) = 5 by decide), if_neg (show ¬ (7 : Int32) = 6 by decide), if_true]
      simp only [r1, r2, oa_bs, oa_ut, e1, e2, lg_self, if_true, e5]
    by_cases o8 : op = 8
    · obtain ⟨a, e1, e2⟩ := c_got (J := J) (K := K) h (xs (5 * i + 1))
      refine ⟨_, ⟨B, J, M, K, rfl, h⟩, fun k => ?_⟩
      simp only [oa_ut]
      rw [b_law, if_neg hc, r0]
      simp only [oa_bs, hop, o8]
      rw [if_neg (show ¬ (8 : Int32) = 0 by decide), if_neg (show ¬ (8 : Int32) = 1 by decide), if_neg (show ¬ (8 : Int32) = 2 by decide), if_neg (show ¬ (8 : Int32) = 3 by decide), if_neg (show ¬ (8 : Int32) = 4 by decide), if_neg (show ¬ (8 : Int32) = 5 by decide), if_neg (show ¬ (8 : Int32) = 6 by decide), if_neg (show ¬ (8 : Int32) = 7 by decide), if_true]
      simp only [r1, oa_bs, oa_ut, e1, e2, lg_self, if_true, e5]
    by_cases o9 : op = 9
    · obtain ⟨a, B', M', e1, e2, hr⟩ := c_point (J := J) (K := K) h (xs (5 * i + 1)) (xs (5 * i + 2))
      refine ⟨_, ⟨B', J, M', K, rfl, hr⟩, fun k => ?_⟩
      simp only [oa_ut]
      rw [b_law, if_neg hc, r0]
      simp only [oa_bs, hop, o9]
      rw [if_neg (show ¬ (9 : Int32) = 0 by decide), if_neg (show ¬ (9 : Int32) = 1 by decide), if_neg (show ¬ (9 : Int32) = 2 by decide), if_neg (show ¬ (9 : Int32) = 3 by decide), if_neg (show ¬ (9 : Int32) = 4 by decide), if_neg (show ¬ (9 : Int32) = 5 by decide), if_neg (show ¬ (9 : Int32) = 6 by decide), if_neg (show ¬ (9 : Int32) = 7 by decide), if_neg (show ¬ (9 : Int32) = 8 by decide), if_true]
      simp only [r1, r2, oa_bs, oa_ut, e1, e2, lg_self, if_true, e5]
    by_cases o10 : op = 10
    · obtain ⟨a, B', M', e1, e2, hr⟩ := c_rest (J := J) (K := K) h (xs (5 * i + 1)) (xs (5 * i + 2))
      refine ⟨_, ⟨B', J, M', K, rfl, hr⟩, fun k => ?_⟩
      simp only [oa_ut]
      rw [b_law, if_neg hc, r0]
      simp only [oa_bs, hop, o10]
      rw [if_neg (show ¬ (10 : Int32) = 0 by decide), if_neg (show ¬ (10 : Int32) = 1 by decide), if_neg (show ¬ (10 : Int32) = 2 by decide), if_neg (show ¬ (10 : Int32) = 3 by decide), if_neg (show ¬ (10 : Int32) = 4 by decide), if_neg (show ¬ (10 : Int32) = 5 by decide), if_neg (show ¬ (10 : Int32) = 6 by decide), if_neg (show ¬ (10 : Int32) = 7 by decide), if_neg (show ¬ (10 : Int32) = 8 by decide), if_neg (show ¬ (10 : Int32) = 9 by decide), if_true]
      simp only [r1, r2, oa_bs, oa_ut, e1, e2, lg_self, if_true, e5]
    by_cases o11 : op = 11
    · obtain ⟨a, e1, e2⟩ := c_would (J := J) (K := K) h (xs (5 * i + 1)) (xs (5 * i + 2))
      refine ⟨_, ⟨B, J, M, K, rfl, h⟩, fun k => ?_⟩
      simp only [oa_ut]
      rw [b_law, if_neg hc, r0]
      simp only [oa_bs, hop, o11]
      rw [if_neg (show ¬ (11 : Int32) = 0 by decide), if_neg (show ¬ (11 : Int32) = 1 by decide), if_neg (show ¬ (11 : Int32) = 2 by decide), if_neg (show ¬ (11 : Int32) = 3 by decide), if_neg (show ¬ (11 : Int32) = 4 by decide), if_neg (show ¬ (11 : Int32) = 5 by decide), if_neg (show ¬ (11 : Int32) = 6 by decide), if_neg (show ¬ (11 : Int32) = 7 by decide), if_neg (show ¬ (11 : Int32) = 8 by decide), if_neg (show ¬ (11 : Int32) = 9 by decide), if_neg (show ¬ (11 : Int32) = 10 by decide), if_true]
      simp only [r1, r2, oa_bs, oa_ut, e1, e2, lg_self, if_true, e5]
    by_cases o12 : op = 12
    · obtain ⟨a, e1, e2⟩ := c_worth (J := J) (K := K) h (xs (5 * i + 1)) (xs (5 * i + 2)) (xs (5 * i + 3))
      refine ⟨_, ⟨B, J, M, K, rfl, h⟩, fun k => ?_⟩
      simp only [oa_ut]
      rw [b_law, if_neg hc, r0]
      simp only [oa_bs, hop, o12]
      rw [if_neg (show ¬ (12 : Int32) = 0 by decide), if_neg (show ¬ (12 : Int32) = 1 by decide), if_neg (show ¬ (12 : Int32) = 2 by decide), if_neg (show ¬ (12 : Int32) = 3 by decide), if_neg (show ¬ (12 : Int32) = 4 by decide), if_neg (show ¬ (12 : Int32) = 5 by decide), if_neg (show ¬ (12 : Int32) = 6 by decide), if_neg (show ¬ (12 : Int32) = 7 by decide), if_neg (show ¬ (12 : Int32) = 8 by decide), if_neg (show ¬ (12 : Int32) = 9 by decide), if_neg (show ¬ (12 : Int32) = 10 by decide), if_neg (show ¬ (12 : Int32) = 11 by decide), if_true]
      simp only [r1, r2, r3, oa_bs, oa_ut, e1, e2, lg_self, if_true, e5]
    by_cases o13 : op = 13
    · obtain ⟨a, e1, e2⟩ := c_whom (J := J) (K := K) h (xs (5 * i + 1))
      refine ⟨_, ⟨B, J, M, K, rfl, h⟩, fun k => ?_⟩
      simp only [oa_ut]
      rw [b_law, if_neg hc, r0]
      simp only [oa_bs, hop, o13]
      rw [if_neg (show ¬ (13 : Int32) = 0 by decide), if_neg (show ¬ (13 : Int32) = 1 by decide), if_neg (show ¬ (13 : Int32) = 2 by decide), if_neg (show ¬ (13 : Int32) = 3 by decide), if_neg (show ¬ (13 : Int32) = 4 by decide), if_neg (show ¬ (13 : Int32) = 5 by decide), if_neg (show ¬ (13 : Int32) = 6 by decide), if_neg (show ¬ (13 : Int32) = 7 by decide), if_neg (show ¬ (13 : Int32) = 8 by decide), if_neg (show ¬ (13 : Int32) = 9 by decide), if_neg (show ¬ (13 : Int32) = 10 by decide), if_neg (show ¬ (13 : Int32) = 11 by decide), if_neg (show ¬ (13 : Int32) = 12 by decide), if_true]
      simp only [r1, oa_bs, oa_ut, e1, e2, lg_self, if_true, e5]
    by_cases o14 : op = 14
    · obtain ⟨a, B', M', e1, e2, hr⟩ := c_wrong (J := J) (K := K) h (xs (5 * i + 1)) (xs (5 * i + 2))
      refine ⟨_, ⟨B', J, M', K, rfl, hr⟩, fun k => ?_⟩
      simp only [oa_ut]
      rw [b_law, if_neg hc, r0]
      simp only [oa_bs, hop, o14]
      rw [if_neg (show ¬ (14 : Int32) = 0 by decide), if_neg (show ¬ (14 : Int32) = 1 by decide), if_neg (show ¬ (14 : Int32) = 2 by decide), if_neg (show ¬ (14 : Int32) = 3 by decide), if_neg (show ¬ (14 : Int32) = 4 by decide), if_neg (show ¬ (14 : Int32) = 5 by decide), if_neg (show ¬ (14 : Int32) = 6 by decide), if_neg (show ¬ (14 : Int32) = 7 by decide), if_neg (show ¬ (14 : Int32) = 8 by decide), if_neg (show ¬ (14 : Int32) = 9 by decide), if_neg (show ¬ (14 : Int32) = 10 by decide), if_neg (show ¬ (14 : Int32) = 11 by decide), if_neg (show ¬ (14 : Int32) = 12 by decide), if_neg (show ¬ (14 : Int32) = 13 by decide), if_true]
      simp only [r1, r2, oa_bs, oa_ut, e1, e2, lg_self, if_true, e5]
    by_cases o15 : op = 15
    · obtain ⟨a, B', M', e1, e2, hr⟩ := c_go (J := J) (K := K) h (xs (5 * i + 1))
      refine ⟨_, ⟨B', J, M', K, rfl, hr⟩, fun k => ?_⟩
      simp only [oa_ut]
      rw [b_law, if_neg hc, r0]
      simp only [oa_bs, hop, o15]
      rw [if_neg (show ¬ (15 : Int32) = 0 by decide), if_neg (show ¬ (15 : Int32) = 1 by decide), if_neg (show ¬ (15 : Int32) = 2 by decide), if_neg (show ¬ (15 : Int32) = 3 by decide), if_neg (show ¬ (15 : Int32) = 4 by decide), if_neg (show ¬ (15 : Int32) = 5 by decide), if_neg (show ¬ (15 : Int32) = 6 by decide), if_neg (show ¬ (15 : Int32) = 7 by decide), if_neg (show ¬ (15 : Int32) = 8 by decide), if_neg (show ¬ (15 : Int32) = 9 by decide), if_neg (show ¬ (15 : Int32) = 10 by decide), if_neg (show ¬ (15 : Int32) = 11 by decide), if_neg (show ¬ (15 : Int32) = 12 by decide), if_neg (show ¬ (15 : Int32) = 13 by decide), if_neg (show ¬ (15 : Int32) = 14 by decide), if_true]
      simp only [r1, oa_bs, oa_ut, e1, e2, lg_self, if_true, e5]
    by_cases o16 : op = 16
    · obtain ⟨a, e1, e2⟩ := c_now (J := J) (K := K) h (xs (5 * i + 1))
      refine ⟨_, ⟨B, J, M, K, rfl, h⟩, fun k => ?_⟩
      simp only [oa_ut]
      rw [b_law, if_neg hc, r0]
      simp only [oa_bs, hop, o16]
      rw [if_neg (show ¬ (16 : Int32) = 0 by decide), if_neg (show ¬ (16 : Int32) = 1 by decide), if_neg (show ¬ (16 : Int32) = 2 by decide), if_neg (show ¬ (16 : Int32) = 3 by decide), if_neg (show ¬ (16 : Int32) = 4 by decide), if_neg (show ¬ (16 : Int32) = 5 by decide), if_neg (show ¬ (16 : Int32) = 6 by decide), if_neg (show ¬ (16 : Int32) = 7 by decide), if_neg (show ¬ (16 : Int32) = 8 by decide), if_neg (show ¬ (16 : Int32) = 9 by decide), if_neg (show ¬ (16 : Int32) = 10 by decide), if_neg (show ¬ (16 : Int32) = 11 by decide), if_neg (show ¬ (16 : Int32) = 12 by decide), if_neg (show ¬ (16 : Int32) = 13 by decide), if_neg (show ¬ (16 : Int32) = 14 by decide), if_neg (show ¬ (16 : Int32) = 15 by decide), if_true]
      simp only [r1, oa_bs, oa_ut, e1, e2, lg_self, if_true, e5]
    by_cases o17 : op = 17
    · obtain ⟨a, B', M', e1, e2, hr⟩ := c_run (J := J) (K := K) h (xs (5 * i + 1)) (xs (5 * i + 2))
      refine ⟨_, ⟨B', J, M', K, rfl, hr⟩, fun k => ?_⟩
      simp only [oa_ut]
      rw [b_law, if_neg hc, r0]
      simp only [oa_bs, hop, o17]
      rw [if_neg (show ¬ (17 : Int32) = 0 by decide), if_neg (show ¬ (17 : Int32) = 1 by decide), if_neg (show ¬ (17 : Int32) = 2 by decide), if_neg (show ¬ (17 : Int32) = 3 by decide), if_neg (show ¬ (17 : Int32) = 4 by decide), if_neg (show ¬ (17 : Int32) = 5 by decide), if_neg (show ¬ (17 : Int32) = 6 by decide), if_neg (show ¬ (17 : Int32) = 7 by decide), if_neg (show ¬ (17 : Int32) = 8 by decide), if_neg (show ¬ (17 : Int32) = 9 by decide), if_neg (show ¬ (17 : Int32) = 10 by decide), if_neg (show ¬ (17 : Int32) = 11 by decide), if_neg (show ¬ (17 : Int32) = 12 by decide), if_neg (show ¬ (17 : Int32) = 13 by decide), if_neg (show ¬ (17 : Int32) = 14 by decide), if_neg (show ¬ (17 : Int32) = 15 by decide), if_neg (show ¬ (17 : Int32) = 16 by decide), if_true]
      simp only [r1, r2, oa_bs, oa_ut, e1, e2, lg_self, if_true, e5]
    by_cases o18 : op = 18
    · obtain ⟨a, B', M', e1, e2, hr⟩ := c_peace (J := J) (K := K) h
      refine ⟨_, ⟨B', J, M', K, rfl, hr⟩, fun k => ?_⟩
      simp only [oa_ut]
      rw [b_law, if_neg hc, r0]
      simp only [oa_bs, hop, o18]
      rw [if_neg (show ¬ (18 : Int32) = 0 by decide), if_neg (show ¬ (18 : Int32) = 1 by decide), if_neg (show ¬ (18 : Int32) = 2 by decide), if_neg (show ¬ (18 : Int32) = 3 by decide), if_neg (show ¬ (18 : Int32) = 4 by decide), if_neg (show ¬ (18 : Int32) = 5 by decide), if_neg (show ¬ (18 : Int32) = 6 by decide), if_neg (show ¬ (18 : Int32) = 7 by decide), if_neg (show ¬ (18 : Int32) = 8 by decide), if_neg (show ¬ (18 : Int32) = 9 by decide), if_neg (show ¬ (18 : Int32) = 10 by decide), if_neg (show ¬ (18 : Int32) = 11 by decide), if_neg (show ¬ (18 : Int32) = 12 by decide), if_neg (show ¬ (18 : Int32) = 13 by decide), if_neg (show ¬ (18 : Int32) = 14 by decide), if_neg (show ¬ (18 : Int32) = 15 by decide), if_neg (show ¬ (18 : Int32) = 16 by decide), if_neg (show ¬ (18 : Int32) = 17 by decide), if_true]
      simp only [oa_bs, oa_ut, e1, e2, lg_self, if_true, e5]
    by_cases o19 : op = 19
    · obtain ⟨a, B', M', e1, e2, hr⟩ := c_again (J := J) (K := K) h (xs (5 * i + 1))
      refine ⟨_, ⟨B', J, M', K, rfl, hr⟩, fun k => ?_⟩
      simp only [oa_ut]
      rw [b_law, if_neg hc, r0]
      simp only [oa_bs, hop, o19]
      rw [if_neg (show ¬ (19 : Int32) = 0 by decide), if_neg (show ¬ (19 : Int32) = 1 by decide), if_neg (show ¬ (19 : Int32) = 2 by decide), if_neg (show ¬ (19 : Int32) = 3 by decide), if_neg (show ¬ (19 : Int32) = 4 by decide), if_neg (show ¬ (19 : Int32) = 5 by decide), if_neg (show ¬ (19 : Int32) = 6 by decide), if_neg (show ¬ (19 : Int32) = 7 by decide), if_neg (show ¬ (19 : Int32) = 8 by decide), if_neg (show ¬ (19 : Int32) = 9 by decide), if_neg (show ¬ (19 : Int32) = 10 by decide), if_neg (show ¬ (19 : Int32) = 11 by decide), if_neg (show ¬ (19 : Int32) = 12 by decide), if_neg (show ¬ (19 : Int32) = 13 by decide), if_neg (show ¬ (19 : Int32) = 14 by decide), if_neg (show ¬ (19 : Int32) = 15 by decide), if_neg (show ¬ (19 : Int32) = 16 by decide), if_neg (show ¬ (19 : Int32) = 17 by decide), if_neg (show ¬ (19 : Int32) = 18 by decide), if_true]
      simp only [r1, oa_bs, oa_ut, e1, e2, lg_self, if_true, e5]
    by_cases o20 : op = 20
    · obtain ⟨a, B', M', e1, e2, hr⟩ := c_two (J := J) (K := K) h (xs (5 * i + 1))
      refine ⟨_, ⟨B', J, M', K, rfl, hr⟩, fun k => ?_⟩
      simp only [oa_ut]
      rw [b_law, if_neg hc, r0]
      simp only [oa_bs, hop, o20]
      rw [if_neg (show ¬ (20 : Int32) = 0 by decide), if_neg (show ¬ (20 : Int32) = 1 by decide), if_neg (show ¬ (20 : Int32) = 2 by decide), if_neg (show ¬ (20 : Int32) = 3 by decide), if_neg (show ¬ (20 : Int32) = 4 by decide), if_neg (show ¬ (20 : Int32) = 5 by decide), if_neg (show ¬ (20 : Int32) = 6 by decide), if_neg (show ¬ (20 : Int32) = 7 by decide), if_neg (show ¬ (20 : Int32) = 8 by decide), if_neg (show ¬ (20 : Int32) = 9 by decide), if_neg (show ¬ (20 : Int32) = 10 by decide), if_neg (show ¬ (20 : Int32) = 11 by decide), if_neg (show ¬ (20 : Int32) = 12 by decide), if_neg (show ¬ (20 : Int32) = 13 by decide), if_neg (show ¬ (20 : Int32) = 14 by decide), if_neg (show ¬ (20 : Int32) = 15 by decide), if_neg (show ¬ (20 : Int32) = 16 by decide), if_neg (show ¬ (20 : Int32) = 17 by decide), if_neg (show ¬ (20 : Int32) = 18 by decide), if_neg (show ¬ (20 : Int32) = 19 by decide), if_true]
      simp only [r1, oa_bs, oa_ut, e1, e2, lg_self, if_true, e5]
    by_cases o21 : op = 21
    · obtain ⟨a, B', M', e1, e2, hr⟩ := c_were (J := J) (K := K) h (xs (5 * i + 1)) (xs (5 * i + 2)) (xs (5 * i + 3))
      refine ⟨_, ⟨B', J, M', K, rfl, hr⟩, fun k => ?_⟩
      simp only [oa_ut]
      rw [b_law, if_neg hc, r0]
      simp only [oa_bs, hop, o21]
      rw [if_neg (show ¬ (21 : Int32) = 0 by decide), if_neg (show ¬ (21 : Int32) = 1 by decide), if_neg (show ¬ (21 : Int32) = 2 by decide), if_neg (show ¬ (21 : Int32) = 3 by decide), if_neg (show ¬ (21 : Int32) = 4 by decide), if_neg (show ¬ (21 : Int32) = 5 by decide), if_neg (show ¬ (21 : Int32) = 6 by decide), if_neg (show ¬ (21 : Int32) = 7 by decide), if_neg (show ¬ (21 : Int32) = 8 by decide), if_neg (show ¬ (21 : Int32) = 9 by decide), if_neg (show ¬ (21 : Int32) = 10 by decide), if_neg (show ¬ (21 : Int32) = 11 by decide), if_neg (show ¬ (21 : Int32) = 12 by decide), if_neg (show ¬ (21 : Int32) = 13 by decide), if_neg (show ¬ (21 : Int32) = 14 by decide), if_neg (show ¬ (21 : Int32) = 15 by decide), if_neg (show ¬ (21 : Int32) = 16 by decide), if_neg (show ¬ (21 : Int32) = 17 by decide), if_neg (show ¬ (21 : Int32) = 18 by decide), if_neg (show ¬ (21 : Int32) = 19 by decide), if_neg (show ¬ (21 : Int32) = 20 by decide), if_true]
      simp only [r1, r2, r3, oa_bs, oa_ut, e1, e2, lg_self, if_true, e5]
    by_cases o22 : op = 22
    · obtain ⟨a, e1, e2⟩ := c_open (J := J) (K := K) h
      refine ⟨_, ⟨B, J, M, K, rfl, h⟩, fun k => ?_⟩
      simp only [oa_ut]
      rw [b_law, if_neg hc, r0]
      simp only [oa_bs, hop, o22]
      rw [if_neg (show ¬ (22 : Int32) = 0 by decide), if_neg (show ¬ (22 : Int32) = 1 by decide), if_neg (show ¬ (22 : Int32) = 2 by decide), if_neg (show ¬ (22 : Int32) = 3 by decide), if_neg (show ¬ (22 : Int32) = 4 by decide), if_neg (show ¬ (22 : Int32) = 5 by decide), if_neg (show ¬ (22 : Int32) = 6 by decide), if_neg (show ¬ (22 : Int32) = 7 by decide), if_neg (show ¬ (22 : Int32) = 8 by decide), if_neg (show ¬ (22 : Int32) = 9 by decide), if_neg (show ¬ (22 : Int32) = 10 by decide), if_neg (show ¬ (22 : Int32) = 11 by decide), if_neg (show ¬ (22 : Int32) = 12 by decide), if_neg (show ¬ (22 : Int32) = 13 by decide), if_neg (show ¬ (22 : Int32) = 14 by decide), if_neg (show ¬ (22 : Int32) = 15 by decide), if_neg (show ¬ (22 : Int32) = 16 by decide), if_neg (show ¬ (22 : Int32) = 17 by decide), if_neg (show ¬ (22 : Int32) = 18 by decide), if_neg (show ¬ (22 : Int32) = 19 by decide), if_neg (show ¬ (22 : Int32) = 20 by decide), if_neg (show ¬ (22 : Int32) = 21 by decide), if_true]
      simp only [oa_bs, oa_ut, e1, e2, lg_self, if_true, e5]
    by_cases o23 : op = 23
    · obtain ⟨a, B', M', e1, e2, hr⟩ := c_fewest (J := J) (K := K) h (xs (5 * i + 1))
      refine ⟨_, ⟨B', J, M', K, rfl, hr⟩, fun k => ?_⟩
      simp only [oa_ut]
      rw [b_law, if_neg hc, r0]
      simp only [oa_bs, hop, o23]
      rw [if_neg (show ¬ (23 : Int32) = 0 by decide), if_neg (show ¬ (23 : Int32) = 1 by decide), if_neg (show ¬ (23 : Int32) = 2 by decide), if_neg (show ¬ (23 : Int32) = 3 by decide), if_neg (show ¬ (23 : Int32) = 4 by decide), if_neg (show ¬ (23 : Int32) = 5 by decide), if_neg (show ¬ (23 : Int32) = 6 by decide), if_neg (show ¬ (23 : Int32) = 7 by decide), if_neg (show ¬ (23 : Int32) = 8 by decide), if_neg (show ¬ (23 : Int32) = 9 by decide), if_neg (show ¬ (23 : Int32) = 10 by decide), if_neg (show ¬ (23 : Int32) = 11 by decide), if_neg (show ¬ (23 : Int32) = 12 by decide), if_neg (show ¬ (23 : Int32) = 13 by decide), if_neg (show ¬ (23 : Int32) = 14 by decide), if_neg (show ¬ (23 : Int32) = 15 by decide), if_neg (show ¬ (23 : Int32) = 16 by decide), if_neg (show ¬ (23 : Int32) = 17 by decide), if_neg (show ¬ (23 : Int32) = 18 by decide), if_neg (show ¬ (23 : Int32) = 19 by decide), if_neg (show ¬ (23 : Int32) = 20 by decide), if_neg (show ¬ (23 : Int32) = 21 by decide), if_neg (show ¬ (23 : Int32) = 22 by decide), if_true]
      simp only [r1, oa_bs, oa_ut, e1, e2, lg_self, if_true, e5]
    by_cases o24 : op = 24
    · obtain ⟨a, B', M', e1, e2, hr⟩ := c_always (J := J) (K := K) h
      refine ⟨_, ⟨B', J, M', K, rfl, hr⟩, fun k => ?_⟩
      simp only [oa_ut]
      rw [b_law, if_neg hc, r0]
      simp only [oa_bs, hop, o24]
      rw [if_neg (show ¬ (24 : Int32) = 0 by decide), if_neg (show ¬ (24 : Int32) = 1 by decide), if_neg (show ¬ (24 : Int32) = 2 by decide), if_neg (show ¬ (24 : Int32) = 3 by decide), if_neg (show ¬ (24 : Int32) = 4 by decide), if_neg (show ¬ (24 : Int32) = 5 by decide), if_neg (show ¬ (24 : Int32) = 6 by decide), if_neg (show ¬ (24 : Int32) = 7 by decide), if_neg (show ¬ (24 : Int32) = 8 by decide), if_neg (show ¬ (24 : Int32) = 9 by decide), if_neg (show ¬ (24 : Int32) = 10 by decide), if_neg (show ¬ (24 : Int32) = 11 by decide), if_neg (show ¬ (24 : Int32) = 12 by decide), if_neg (show ¬ (24 : Int32) = 13 by decide), if_neg (show ¬ (24 : Int32) = 14 by decide), if_neg (show ¬ (24 : Int32) = 15 by decide), if_neg (show ¬ (24 : Int32) = 16 by decide), if_neg (show ¬ (24 : Int32) = 17 by decide), if_neg (show ¬ (24 : Int32) = 18 by decide), if_neg (show ¬ (24 : Int32) = 19 by decide), if_neg (show ¬ (24 : Int32) = 20 by decide), if_neg (show ¬ (24 : Int32) = 21 by decide), if_neg (show ¬ (24 : Int32) = 22 by decide), if_neg (show ¬ (24 : Int32) = 23 by decide), if_true]
      simp only [oa_bs, oa_ut, e1, e2, lg_self, if_true, e5]
    by_cases o25 : op = 25
    · obtain ⟨a, B', M', e1, e2, hr⟩ := c_where (J := J) (K := K) h (xs (5 * i + 1))
      refine ⟨_, ⟨B', J, M', K, rfl, hr⟩, fun k => ?_⟩
      simp only [oa_ut]
      rw [b_law, if_neg hc, r0]
      simp only [oa_bs, hop, o25]
      rw [if_neg (show ¬ (25 : Int32) = 0 by decide), if_neg (show ¬ (25 : Int32) = 1 by decide), if_neg (show ¬ (25 : Int32) = 2 by decide), if_neg (show ¬ (25 : Int32) = 3 by decide), if_neg (show ¬ (25 : Int32) = 4 by decide), if_neg (show ¬ (25 : Int32) = 5 by decide), if_neg (show ¬ (25 : Int32) = 6 by decide), if_neg (show ¬ (25 : Int32) = 7 by decide), if_neg (show ¬ (25 : Int32) = 8 by decide), if_neg (show ¬ (25 : Int32) = 9 by decide), if_neg (show ¬ (25 : Int32) = 10 by decide), if_neg (show ¬ (25 : Int32) = 11 by decide), if_neg (show ¬ (25 : Int32) = 12 by decide), if_neg (show ¬ (25 : Int32) = 13 by decide), if_neg (show ¬ (25 : Int32) = 14 by decide), if_neg (show ¬ (25 : Int32) = 15 by decide), if_neg (show ¬ (25 : Int32) = 16 by decide), if_neg (show ¬ (25 : Int32) = 17 by decide), if_neg (show ¬ (25 : Int32) = 18 by decide), if_neg (show ¬ (25 : Int32) = 19 by decide), if_neg (show ¬ (25 : Int32) = 20 by decide), if_neg (show ¬ (25 : Int32) = 21 by decide), if_neg (show ¬ (25 : Int32) = 22 by decide), if_neg (show ¬ (25 : Int32) = 23 by decide), if_neg (show ¬ (25 : Int32) = 24 by decide), if_true]
      simp only [r1, oa_bs, oa_ut, e1, e2, lg_self, if_true, e5]
    by_cases o26 : op = 26
    · obtain ⟨a, e1, e2⟩ := c_hire (J := J) (K := K) h (xs (5 * i + 1)) (xs (5 * i + 2))
      refine ⟨_, ⟨B, J, M, K, rfl, h⟩, fun k => ?_⟩
      simp only [oa_ut]
      rw [b_law, if_neg hc, r0]
      simp only [oa_bs, hop, o26]
      rw [if_neg (show ¬ (26 : Int32) = 0 by decide), if_neg (show ¬ (26 : Int32) = 1 by decide), if_neg (show ¬ (26 : Int32) = 2 by decide), if_neg (show ¬ (26 : Int32) = 3 by decide), if_neg (show ¬ (26 : Int32) = 4 by decide), if_neg (show ¬ (26 : Int32) = 5 by decide), if_neg (show ¬ (26 : Int32) = 6 by decide), if_neg (show ¬ (26 : Int32) = 7 by decide), if_neg (show ¬ (26 : Int32) = 8 by decide), if_neg (show ¬ (26 : Int32) = 9 by decide), if_neg (show ¬ (26 : Int32) = 10 by decide), if_neg (show ¬ (26 : Int32) = 11 by decide), if_neg (show ¬ (26 : Int32) = 12 by decide), if_neg (show ¬ (26 : Int32) = 13 by decide), if_neg (show ¬ (26 : Int32) = 14 by decide), if_neg (show ¬ (26 : Int32) = 15 by decide), if_neg (show ¬ (26 : Int32) = 16 by decide), if_neg (show ¬ (26 : Int32) = 17 by decide), if_neg (show ¬ (26 : Int32) = 18 by decide), if_neg (show ¬ (26 : Int32) = 19 by decide), if_neg (show ¬ (26 : Int32) = 20 by decide), if_neg (show ¬ (26 : Int32) = 21 by decide), if_neg (show ¬ (26 : Int32) = 22 by decide), if_neg (show ¬ (26 : Int32) = 23 by decide), if_neg (show ¬ (26 : Int32) = 24 by decide), if_neg (show ¬ (26 : Int32) = 25 by decide), if_true]
      simp only [r1, r2, oa_bs, oa_ut, e1, e2, lg_self, if_true, e5]
    by_cases o27 : op = 27
    · obtain ⟨a, e1, e2⟩ := c_price (J := J) (K := K) h (xs (5 * i + 1))
      refine ⟨_, ⟨B, J, M, K, rfl, h⟩, fun k => ?_⟩
      simp only [oa_ut]
      rw [b_law, if_neg hc, r0]
      simp only [oa_bs, hop, o27]
      rw [if_neg (show ¬ (27 : Int32) = 0 by decide), if_neg (show ¬ (27 : Int32) = 1 by decide), if_neg (show ¬ (27 : Int32) = 2 by decide), if_neg (show ¬ (27 : Int32) = 3 by decide), if_neg (show ¬ (27 : Int32) = 4 by decide), if_neg (show ¬ (27 : Int32) = 5 by decide), if_neg (show ¬ (27 : Int32) = 6 by decide), if_neg (show ¬ (27 : Int32) = 7 by decide), if_neg (show ¬ (27 : Int32) = 8 by decide), if_neg (show ¬ (27 : Int32) = 9 by decide), if_neg (show ¬ (27 : Int32) = 10 by decide), if_neg (show ¬ (27 : Int32) = 11 by decide), if_neg (show ¬ (27 : Int32) = 12 by decide), if_neg (show ¬ (27 : Int32) = 13 by decide), if_neg (show ¬ (27 : Int32) = 14 by decide), if_neg (show ¬ (27 : Int32) = 15 by decide), if_neg (show ¬ (27 : Int32) = 16 by decide), if_neg (show ¬ (27 : Int32) = 17 by decide), if_neg (show ¬ (27 : Int32) = 18 by decide), if_neg (show ¬ (27 : Int32) = 19 by decide), if_neg (show ¬ (27 : Int32) = 20 by decide), if_neg (show ¬ (27 : Int32) = 21 by decide), if_neg (show ¬ (27 : Int32) = 22 by decide), if_neg (show ¬ (27 : Int32) = 23 by decide), if_neg (show ¬ (27 : Int32) = 24 by decide), if_neg (show ¬ (27 : Int32) = 25 by decide), if_neg (show ¬ (27 : Int32) = 26 by decide), if_true]
      simp only [r1, oa_bs, oa_ut, e1, e2, lg_self, if_true, e5]
    by_cases o28 : op = 28
    · obtain ⟨a, B', M', e1, e2, hr⟩ := c_ring (J := J) (K := K) h (xs (5 * i + 1))
      refine ⟨_, ⟨B', J, M', K, rfl, hr⟩, fun k => ?_⟩
      simp only [oa_ut]
      rw [b_law, if_neg hc, r0]
      simp only [oa_bs, hop, o28]
      rw [if_neg (show ¬ (28 : Int32) = 0 by decide), if_neg (show ¬ (28 : Int32) = 1 by decide), if_neg (show ¬ (28 : Int32) = 2 by decide), if_neg (show ¬ (28 : Int32) = 3 by decide), if_neg (show ¬ (28 : Int32) = 4 by decide), if_neg (show ¬ (28 : Int32) = 5 by decide), if_neg (show ¬ (28 : Int32) = 6 by decide), if_neg (show ¬ (28 : Int32) = 7 by decide), if_neg (show ¬ (28 : Int32) = 8 by decide), if_neg (show ¬ (28 : Int32) = 9 by decide), if_neg (show ¬ (28 : Int32) = 10 by decide), if_neg (show ¬ (28 : Int32) = 11 by decide), if_neg (show ¬ (28 : Int32) = 12 by decide), if_neg (show ¬ (28 : Int32) = 13 by decide), if_neg (show ¬ (28 : Int32) = 14 by decide), if_neg (show ¬ (28 : Int32) = 15 by decide), if_neg (show ¬ (28 : Int32) = 16 by decide), if_neg (show ¬ (28 : Int32) = 17 by decide), if_neg (show ¬ (28 : Int32) = 18 by decide), if_neg (show ¬ (28 : Int32) = 19 by decide), if_neg (show ¬ (28 : Int32) = 20 by decide), if_neg (show ¬ (28 : Int32) = 21 by decide), if_neg (show ¬ (28 : Int32) = 22 by decide), if_neg (show ¬ (28 : Int32) = 23 by decide), if_neg (show ¬ (28 : Int32) = 24 by decide), if_neg (show ¬ (28 : Int32) = 25 by decide), if_neg (show ¬ (28 : Int32) = 26 by decide), if_neg (show ¬ (28 : Int32) = 27 by decide), if_true]
      simp only [r1, oa_bs, oa_ut, e1, e2, lg_self, if_true, e5]
    by_cases o29 : op = 29
    · obtain ⟨a, J', K', e1, e2⟩ := c_odds (J := J) (K := K) h (xs (5 * i + 1)) (xs (5 * i + 2)) (xs (5 * i + 3))
      refine ⟨_, ⟨B, J', M, K', rfl, h⟩, fun k => ?_⟩
      simp only [oa_ut]
      rw [b_law, if_neg hc, r0]
      simp only [oa_bs, hop, o29]
      rw [if_neg (show ¬ (29 : Int32) = 0 by decide), if_neg (show ¬ (29 : Int32) = 1 by decide), if_neg (show ¬ (29 : Int32) = 2 by decide), if_neg (show ¬ (29 : Int32) = 3 by decide), if_neg (show ¬ (29 : Int32) = 4 by decide), if_neg (show ¬ (29 : Int32) = 5 by decide), if_neg (show ¬ (29 : Int32) = 6 by decide), if_neg (show ¬ (29 : Int32) = 7 by decide), if_neg (show ¬ (29 : Int32) = 8 by decide), if_neg (show ¬ (29 : Int32) = 9 by decide), if_neg (show ¬ (29 : Int32) = 10 by decide), if_neg (show ¬ (29 : Int32) = 11 by decide), if_neg (show ¬ (29 : Int32) = 12 by decide), if_neg (show ¬ (29 : Int32) = 13 by decide), if_neg (show ¬ (29 : Int32) = 14 by decide), if_neg (show ¬ (29 : Int32) = 15 by decide), if_neg (show ¬ (29 : Int32) = 16 by decide), if_neg (show ¬ (29 : Int32) = 17 by decide), if_neg (show ¬ (29 : Int32) = 18 by decide), if_neg (show ¬ (29 : Int32) = 19 by decide), if_neg (show ¬ (29 : Int32) = 20 by decide), if_neg (show ¬ (29 : Int32) = 21 by decide), if_neg (show ¬ (29 : Int32) = 22 by decide), if_neg (show ¬ (29 : Int32) = 23 by decide), if_neg (show ¬ (29 : Int32) = 24 by decide), if_neg (show ¬ (29 : Int32) = 25 by decide), if_neg (show ¬ (29 : Int32) = 26 by decide), if_neg (show ¬ (29 : Int32) = 27 by decide), if_neg (show ¬ (29 : Int32) = 28 by decide), if_true]
      simp only [r1, r2, r3, oa_bs, oa_ut, e1, e2, lg_self, if_true, e5]
    by_cases o30 : op = 30
    · obtain ⟨a, J', K', e1, e2⟩ := c_mean (J := J) (K := K) h (xs (5 * i + 1)) (xs (5 * i + 2))
      refine ⟨_, ⟨B, J', M, K', rfl, h⟩, fun k => ?_⟩
      simp only [oa_ut]
      rw [b_law, if_neg hc, r0]
      simp only [oa_bs, hop, o30]
      rw [if_neg (show ¬ (30 : Int32) = 0 by decide), if_neg (show ¬ (30 : Int32) = 1 by decide), if_neg (show ¬ (30 : Int32) = 2 by decide), if_neg (show ¬ (30 : Int32) = 3 by decide), if_neg (show ¬ (30 : Int32) = 4 by decide), if_neg (show ¬ (30 : Int32) = 5 by decide), if_neg (show ¬ (30 : Int32) = 6 by decide), if_neg (show ¬ (30 : Int32) = 7 by decide), if_neg (show ¬ (30 : Int32) = 8 by decide), if_neg (show ¬ (30 : Int32) = 9 by decide), if_neg (show ¬ (30 : Int32) = 10 by decide), if_neg (show ¬ (30 : Int32) = 11 by decide), if_neg (show ¬ (30 : Int32) = 12 by decide), if_neg (show ¬ (30 : Int32) = 13 by decide), if_neg (show ¬ (30 : Int32) = 14 by decide), if_neg (show ¬ (30 : Int32) = 15 by decide), if_neg (show ¬ (30 : Int32) = 16 by decide), if_neg (show ¬ (30 : Int32) = 17 by decide), if_neg (show ¬ (30 : Int32) = 18 by decide), if_neg (show ¬ (30 : Int32) = 19 by decide), if_neg (show ¬ (30 : Int32) = 20 by decide), if_neg (show ¬ (30 : Int32) = 21 by decide), if_neg (show ¬ (30 : Int32) = 22 by decide), if_neg (show ¬ (30 : Int32) = 23 by decide), if_neg (show ¬ (30 : Int32) = 24 by decide), if_neg (show ¬ (30 : Int32) = 25 by decide), if_neg (show ¬ (30 : Int32) = 26 by decide), if_neg (show ¬ (30 : Int32) = 27 by decide), if_neg (show ¬ (30 : Int32) = 28 by decide), if_neg (show ¬ (30 : Int32) = 29 by decide), if_true]
      simp only [r1, r2, oa_bs, oa_ut, e1, e2, lg_self, if_true, e5]
    by_cases o31 : op = 31
    · obtain ⟨a, J', K', e1, e2⟩ := c_likeliest (J := J) (K := K) h (xs (5 * i + 1))
      refine ⟨_, ⟨B, J', M, K', rfl, h⟩, fun k => ?_⟩
      simp only [oa_ut]
      rw [b_law, if_neg hc, r0]
      simp only [oa_bs, hop, o31]
      rw [if_neg (show ¬ (31 : Int32) = 0 by decide), if_neg (show ¬ (31 : Int32) = 1 by decide), if_neg (show ¬ (31 : Int32) = 2 by decide), if_neg (show ¬ (31 : Int32) = 3 by decide), if_neg (show ¬ (31 : Int32) = 4 by decide), if_neg (show ¬ (31 : Int32) = 5 by decide), if_neg (show ¬ (31 : Int32) = 6 by decide), if_neg (show ¬ (31 : Int32) = 7 by decide), if_neg (show ¬ (31 : Int32) = 8 by decide), if_neg (show ¬ (31 : Int32) = 9 by decide), if_neg (show ¬ (31 : Int32) = 10 by decide), if_neg (show ¬ (31 : Int32) = 11 by decide), if_neg (show ¬ (31 : Int32) = 12 by decide), if_neg (show ¬ (31 : Int32) = 13 by decide), if_neg (show ¬ (31 : Int32) = 14 by decide), if_neg (show ¬ (31 : Int32) = 15 by decide), if_neg (show ¬ (31 : Int32) = 16 by decide), if_neg (show ¬ (31 : Int32) = 17 by decide), if_neg (show ¬ (31 : Int32) = 18 by decide), if_neg (show ¬ (31 : Int32) = 19 by decide), if_neg (show ¬ (31 : Int32) = 20 by decide), if_neg (show ¬ (31 : Int32) = 21 by decide), if_neg (show ¬ (31 : Int32) = 22 by decide), if_neg (show ¬ (31 : Int32) = 23 by decide), if_neg (show ¬ (31 : Int32) = 24 by decide), if_neg (show ¬ (31 : Int32) = 25 by decide), if_neg (show ¬ (31 : Int32) = 26 by decide), if_neg (show ¬ (31 : Int32) = 27 by decide), if_neg (show ¬ (31 : Int32) = 28 by decide), if_neg (show ¬ (31 : Int32) = 29 by decide), if_neg (show ¬ (31 : Int32) = 30 by decide), if_true]
      simp only [r1, oa_bs, oa_ut, e1, e2, lg_self, if_true, e5]
    by_cases o32 : op = 32
    · obtain ⟨a, B', M', e1, e2, hr⟩ := c_keep (J := J) (K := K) h (xs (5 * i + 1))
      refine ⟨_, ⟨B', J, M', K, rfl, hr⟩, fun k => ?_⟩
      simp only [oa_ut]
      rw [b_law, if_neg hc, r0]
      simp only [oa_bs, hop, o32]
      rw [if_neg (show ¬ (32 : Int32) = 0 by decide), if_neg (show ¬ (32 : Int32) = 1 by decide), if_neg (show ¬ (32 : Int32) = 2 by decide), if_neg (show ¬ (32 : Int32) = 3 by decide), if_neg (show ¬ (32 : Int32) = 4 by decide), if_neg (show ¬ (32 : Int32) = 5 by decide), if_neg (show ¬ (32 : Int32) = 6 by decide), if_neg (show ¬ (32 : Int32) = 7 by decide), if_neg (show ¬ (32 : Int32) = 8 by decide), if_neg (show ¬ (32 : Int32) = 9 by decide), if_neg (show ¬ (32 : Int32) = 10 by decide), if_neg (show ¬ (32 : Int32) = 11 by decide), if_neg (show ¬ (32 : Int32) = 12 by decide), if_neg (show ¬ (32 : Int32) = 13 by decide), if_neg (show ¬ (32 : Int32) = 14 by decide), if_neg (show ¬ (32 : Int32) = 15 by decide), if_neg (show ¬ (32 : Int32) = 16 by decide), if_neg (show ¬ (32 : Int32) = 17 by decide), if_neg (show ¬ (32 : Int32) = 18 by decide), if_neg (show ¬ (32 : Int32) = 19 by decide), if_neg (show ¬ (32 : Int32) = 20 by decide), if_neg (show ¬ (32 : Int32) = 21 by decide), if_neg (show ¬ (32 : Int32) = 22 by decide), if_neg (show ¬ (32 : Int32) = 23 by decide), if_neg (show ¬ (32 : Int32) = 24 by decide), if_neg (show ¬ (32 : Int32) = 25 by decide), if_neg (show ¬ (32 : Int32) = 26 by decide), if_neg (show ¬ (32 : Int32) = 27 by decide), if_neg (show ¬ (32 : Int32) = 28 by decide), if_neg (show ¬ (32 : Int32) = 29 by decide), if_neg (show ¬ (32 : Int32) = 30 by decide), if_neg (show ¬ (32 : Int32) = 31 by decide), if_true]
      simp only [r1, oa_bs, oa_ut, e1, e2, lg_self, if_true, e5]
    by_cases o33 : op = 33
    · obtain ⟨a, B', M', e1, e2, hr⟩ := c_back (J := J) (K := K) h (xs (5 * i + 1))
      refine ⟨_, ⟨B', J, M', K, rfl, hr⟩, fun k => ?_⟩
      simp only [oa_ut]
      rw [b_law, if_neg hc, r0]
      simp only [oa_bs, hop, o33]
      rw [if_neg (show ¬ (33 : Int32) = 0 by decide), if_neg (show ¬ (33 : Int32) = 1 by decide), if_neg (show ¬ (33 : Int32) = 2 by decide), if_neg (show ¬ (33 : Int32) = 3 by decide), if_neg (show ¬ (33 : Int32) = 4 by decide), if_neg (show ¬ (33 : Int32) = 5 by decide), if_neg (show ¬ (33 : Int32) = 6 by decide), if_neg (show ¬ (33 : Int32) = 7 by decide), if_neg (show ¬ (33 : Int32) = 8 by decide), if_neg (show ¬ (33 : Int32) = 9 by decide), if_neg (show ¬ (33 : Int32) = 10 by decide), if_neg (show ¬ (33 : Int32) = 11 by decide), if_neg (show ¬ (33 : Int32) = 12 by decide), if_neg (show ¬ (33 : Int32) = 13 by decide), if_neg (show ¬ (33 : Int32) = 14 by decide), if_neg (show ¬ (33 : Int32) = 15 by decide), if_neg (show ¬ (33 : Int32) = 16 by decide), if_neg (show ¬ (33 : Int32) = 17 by decide), if_neg (show ¬ (33 : Int32) = 18 by decide), if_neg (show ¬ (33 : Int32) = 19 by decide), if_neg (show ¬ (33 : Int32) = 20 by decide), if_neg (show ¬ (33 : Int32) = 21 by decide), if_neg (show ¬ (33 : Int32) = 22 by decide), if_neg (show ¬ (33 : Int32) = 23 by decide), if_neg (show ¬ (33 : Int32) = 24 by decide), if_neg (show ¬ (33 : Int32) = 25 by decide), if_neg (show ¬ (33 : Int32) = 26 by decide), if_neg (show ¬ (33 : Int32) = 27 by decide), if_neg (show ¬ (33 : Int32) = 28 by decide), if_neg (show ¬ (33 : Int32) = 29 by decide), if_neg (show ¬ (33 : Int32) = 30 by decide), if_neg (show ¬ (33 : Int32) = 31 by decide), if_neg (show ¬ (33 : Int32) = 32 by decide), if_true]
      simp only [r1, oa_bs, oa_ut, e1, e2, lg_self, if_true, e5]
    by_cases o34 : op = 34
    · obtain ⟨a, B', M', e1, e2, hr⟩ := c_sheet (J := J) (K := K) h (xs (5 * i + 1)) (xs (5 * i + 2)) (xs (5 * i + 3))
      refine ⟨_, ⟨B', J, M', K, rfl, hr⟩, fun k => ?_⟩
      simp only [oa_ut]
      rw [b_law, if_neg hc, r0]
      simp only [oa_bs, hop, o34]
      rw [if_neg (show ¬ (34 : Int32) = 0 by decide), if_neg (show ¬ (34 : Int32) = 1 by decide), if_neg (show ¬ (34 : Int32) = 2 by decide), if_neg (show ¬ (34 : Int32) = 3 by decide), if_neg (show ¬ (34 : Int32) = 4 by decide), if_neg (show ¬ (34 : Int32) = 5 by decide), if_neg (show ¬ (34 : Int32) = 6 by decide), if_neg (show ¬ (34 : Int32) = 7 by decide), if_neg (show ¬ (34 : Int32) = 8 by decide), if_neg (show ¬ (34 : Int32) = 9 by decide), if_neg (show ¬ (34 : Int32) = 10 by decide), if_neg (show ¬ (34 : Int32) = 11 by decide), if_neg (show ¬ (34 : Int32) = 12 by decide), if_neg (show ¬ (34 : Int32) = 13 by decide), if_neg (show ¬ (34 : Int32) = 14 by decide), if_neg (show ¬ (34 : Int32) = 15 by decide), if_neg (show ¬ (34 : Int32) = 16 by decide), if_neg (show ¬ (34 : Int32) = 17 by decide), if_neg (show ¬ (34 : Int32) = 18 by decide), if_neg (show ¬ (34 : Int32) = 19 by decide), if_neg (show ¬ (34 : Int32) = 20 by decide), if_neg (show ¬ (34 : Int32) = 21 by decide), if_neg (show ¬ (34 : Int32) = 22 by decide), if_neg (show ¬ (34 : Int32) = 23 by decide), if_neg (show ¬ (34 : Int32) = 24 by decide), if_neg (show ¬ (34 : Int32) = 25 by decide), if_neg (show ¬ (34 : Int32) = 26 by decide), if_neg (show ¬ (34 : Int32) = 27 by decide), if_neg (show ¬ (34 : Int32) = 28 by decide), if_neg (show ¬ (34 : Int32) = 29 by decide), if_neg (show ¬ (34 : Int32) = 30 by decide), if_neg (show ¬ (34 : Int32) = 31 by decide), if_neg (show ¬ (34 : Int32) = 32 by decide), if_neg (show ¬ (34 : Int32) = 33 by decide), if_true]
      simp only [r1, r2, r3, oa_bs, oa_ut, e1, e2, lg_self, if_true, e5]
    by_cases o35 : op = 35
    · obtain ⟨a, B', M', e1, e2, hr⟩ := c_lay (J := J) (K := K) h (xs (5 * i + 1)) (xs (5 * i + 2)) (xs (5 * i + 3))
      refine ⟨_, ⟨B', J, M', K, rfl, hr⟩, fun k => ?_⟩
      simp only [oa_ut]
      rw [b_law, if_neg hc, r0]
      simp only [oa_bs, hop, o35]
      rw [if_neg (show ¬ (35 : Int32) = 0 by decide), if_neg (show ¬ (35 : Int32) = 1 by decide), if_neg (show ¬ (35 : Int32) = 2 by decide), if_neg (show ¬ (35 : Int32) = 3 by decide), if_neg (show ¬ (35 : Int32) = 4 by decide), if_neg (show ¬ (35 : Int32) = 5 by decide), if_neg (show ¬ (35 : Int32) = 6 by decide), if_neg (show ¬ (35 : Int32) = 7 by decide), if_neg (show ¬ (35 : Int32) = 8 by decide), if_neg (show ¬ (35 : Int32) = 9 by decide), if_neg (show ¬ (35 : Int32) = 10 by decide), if_neg (show ¬ (35 : Int32) = 11 by decide), if_neg (show ¬ (35 : Int32) = 12 by decide), if_neg (show ¬ (35 : Int32) = 13 by decide), if_neg (show ¬ (35 : Int32) = 14 by decide), if_neg (show ¬ (35 : Int32) = 15 by decide), if_neg (show ¬ (35 : Int32) = 16 by decide), if_neg (show ¬ (35 : Int32) = 17 by decide), if_neg (show ¬ (35 : Int32) = 18 by decide), if_neg (show ¬ (35 : Int32) = 19 by decide), if_neg (show ¬ (35 : Int32) = 20 by decide), if_neg (show ¬ (35 : Int32) = 21 by decide), if_neg (show ¬ (35 : Int32) = 22 by decide), if_neg (show ¬ (35 : Int32) = 23 by decide), if_neg (show ¬ (35 : Int32) = 24 by decide), if_neg (show ¬ (35 : Int32) = 25 by decide), if_neg (show ¬ (35 : Int32) = 26 by decide), if_neg (show ¬ (35 : Int32) = 27 by decide), if_neg (show ¬ (35 : Int32) = 28 by decide), if_neg (show ¬ (35 : Int32) = 29 by decide), if_neg (show ¬ (35 : Int32) = 30 by decide), if_neg (show ¬ (35 : Int32) = 31 by decide), if_neg (show ¬ (35 : Int32) = 32 by decide), if_neg (show ¬ (35 : Int32) = 33 by decide), if_neg (show ¬ (35 : Int32) = 34 by decide), if_true]
      simp only [r1, r2, r3, oa_bs, oa_ut, e1, e2, lg_self, if_true, e5]
    by_cases o36 : op = 36
    · obtain ⟨a, B', M', e1, e2, hr⟩ := c_read (J := J) (K := K) h (xs (5 * i + 1)) (xs (5 * i + 2)) (xs (5 * i + 3)) (xs (5 * i + 4))
      refine ⟨_, ⟨B', J, M', K, rfl, hr⟩, fun k => ?_⟩
      simp only [oa_ut]
      rw [b_law, if_neg hc, r0]
      simp only [oa_bs, hop, o36]
      rw [if_neg (show ¬ (36 : Int32) = 0 by decide), if_neg (show ¬ (36 : Int32) = 1 by decide), if_neg (show ¬ (36 : Int32) = 2 by decide), if_neg (show ¬ (36 : Int32) = 3 by decide), if_neg (show ¬ (36 : Int32) = 4 by decide), if_neg (show ¬ (36 : Int32) = 5 by decide), if_neg (show ¬ (36 : Int32) = 6 by decide), if_neg (show ¬ (36 : Int32) = 7 by decide), if_neg (show ¬ (36 : Int32) = 8 by decide), if_neg (show ¬ (36 : Int32) = 9 by decide), if_neg (show ¬ (36 : Int32) = 10 by decide), if_neg (show ¬ (36 : Int32) = 11 by decide), if_neg (show ¬ (36 : Int32) = 12 by decide), if_neg (show ¬ (36 : Int32) = 13 by decide), if_neg (show ¬ (36 : Int32) = 14 by decide), if_neg (show ¬ (36 : Int32) = 15 by decide), if_neg (show ¬ (36 : Int32) = 16 by decide), if_neg (show ¬ (36 : Int32) = 17 by decide), if_neg (show ¬ (36 : Int32) = 18 by decide), if_neg (show ¬ (36 : Int32) = 19 by decide), if_neg (show ¬ (36 : Int32) = 20 by decide), if_neg (show ¬ (36 : Int32) = 21 by decide), if_neg (show ¬ (36 : Int32) = 22 by decide), if_neg (show ¬ (36 : Int32) = 23 by decide), if_neg (show ¬ (36 : Int32) = 24 by decide), if_neg (show ¬ (36 : Int32) = 25 by decide), if_neg (show ¬ (36 : Int32) = 26 by decide), if_neg (show ¬ (36 : Int32) = 27 by decide), if_neg (show ¬ (36 : Int32) = 28 by decide), if_neg (show ¬ (36 : Int32) = 29 by decide), if_neg (show ¬ (36 : Int32) = 30 by decide), if_neg (show ¬ (36 : Int32) = 31 by decide), if_neg (show ¬ (36 : Int32) = 32 by decide), if_neg (show ¬ (36 : Int32) = 33 by decide), if_neg (show ¬ (36 : Int32) = 34 by decide), if_neg (show ¬ (36 : Int32) = 35 by decide), if_true]
      simp only [r1, r2, r3, r4, oa_bs, oa_ut, e1, e2, lg_self, if_true, e5]
    by_cases o37 : op = 37
    · obtain ⟨a, e1, e2⟩ := c_torn (J := J) (K := K) h
      refine ⟨_, ⟨B, J, M, K, rfl, h⟩, fun k => ?_⟩
      simp only [oa_ut]
      rw [b_law, if_neg hc, r0]
      simp only [oa_bs, hop, o37]
      rw [if_neg (show ¬ (37 : Int32) = 0 by decide), if_neg (show ¬ (37 : Int32) = 1 by decide), if_neg (show ¬ (37 : Int32) = 2 by decide), if_neg (show ¬ (37 : Int32) = 3 by decide), if_neg (show ¬ (37 : Int32) = 4 by decide), if_neg (show ¬ (37 : Int32) = 5 by decide), if_neg (show ¬ (37 : Int32) = 6 by decide), if_neg (show ¬ (37 : Int32) = 7 by decide), if_neg (show ¬ (37 : Int32) = 8 by decide), if_neg (show ¬ (37 : Int32) = 9 by decide), if_neg (show ¬ (37 : Int32) = 10 by decide), if_neg (show ¬ (37 : Int32) = 11 by decide), if_neg (show ¬ (37 : Int32) = 12 by decide), if_neg (show ¬ (37 : Int32) = 13 by decide), if_neg (show ¬ (37 : Int32) = 14 by decide), if_neg (show ¬ (37 : Int32) = 15 by decide), if_neg (show ¬ (37 : Int32) = 16 by decide), if_neg (show ¬ (37 : Int32) = 17 by decide), if_neg (show ¬ (37 : Int32) = 18 by decide), if_neg (show ¬ (37 : Int32) = 19 by decide), if_neg (show ¬ (37 : Int32) = 20 by decide), if_neg (show ¬ (37 : Int32) = 21 by decide), if_neg (show ¬ (37 : Int32) = 22 by decide), if_neg (show ¬ (37 : Int32) = 23 by decide), if_neg (show ¬ (37 : Int32) = 24 by decide), if_neg (show ¬ (37 : Int32) = 25 by decide), if_neg (show ¬ (37 : Int32) = 26 by decide), if_neg (show ¬ (37 : Int32) = 27 by decide), if_neg (show ¬ (37 : Int32) = 28 by decide), if_neg (show ¬ (37 : Int32) = 29 by decide), if_neg (show ¬ (37 : Int32) = 30 by decide), if_neg (show ¬ (37 : Int32) = 31 by decide), if_neg (show ¬ (37 : Int32) = 32 by decide), if_neg (show ¬ (37 : Int32) = 33 by decide), if_neg (show ¬ (37 : Int32) = 34 by decide), if_neg (show ¬ (37 : Int32) = 35 by decide), if_neg (show ¬ (37 : Int32) = 36 by decide), if_true]
      simp only [oa_bs, oa_ut, e1, e2, lg_self, if_true, e5]
    by_cases o38 : op = 38
    · obtain ⟨a, e1, e2⟩ := c_count (J := J) (K := K) h (xs (5 * i + 1))
      refine ⟨_, ⟨B, J, M, K, rfl, h⟩, fun k => ?_⟩
      simp only [oa_ut]
      rw [b_law, if_neg hc, r0]
      simp only [oa_bs, hop, o38]
      rw [if_neg (show ¬ (38 : Int32) = 0 by decide), if_neg (show ¬ (38 : Int32) = 1 by decide), if_neg (show ¬ (38 : Int32) = 2 by decide), if_neg (show ¬ (38 : Int32) = 3 by decide), if_neg (show ¬ (38 : Int32) = 4 by decide), if_neg (show ¬ (38 : Int32) = 5 by decide), if_neg (show ¬ (38 : Int32) = 6 by decide), if_neg (show ¬ (38 : Int32) = 7 by decide), if_neg (show ¬ (38 : Int32) = 8 by decide), if_neg (show ¬ (38 : Int32) = 9 by decide), if_neg (show ¬ (38 : Int32) = 10 by decide), if_neg (show ¬ (38 : Int32) = 11 by decide), if_neg (show ¬ (38 : Int32) = 12 by decide), if_neg (show ¬ (38 : Int32) = 13 by decide), if_neg (show ¬ (38 : Int32) = 14 by decide), if_neg (show ¬ (38 : Int32) = 15 by decide), if_neg (show ¬ (38 : Int32) = 16 by decide), if_neg (show ¬ (38 : Int32) = 17 by decide), if_neg (show ¬ (38 : Int32) = 18 by decide), if_neg (show ¬ (38 : Int32) = 19 by decide), if_neg (show ¬ (38 : Int32) = 20 by decide), if_neg (show ¬ (38 : Int32) = 21 by decide), if_neg (show ¬ (38 : Int32) = 22 by decide), if_neg (show ¬ (38 : Int32) = 23 by decide), if_neg (show ¬ (38 : Int32) = 24 by decide), if_neg (show ¬ (38 : Int32) = 25 by decide), if_neg (show ¬ (38 : Int32) = 26 by decide), if_neg (show ¬ (38 : Int32) = 27 by decide), if_neg (show ¬ (38 : Int32) = 28 by decide), if_neg (show ¬ (38 : Int32) = 29 by decide), if_neg (show ¬ (38 : Int32) = 30 by decide), if_neg (show ¬ (38 : Int32) = 31 by decide), if_neg (show ¬ (38 : Int32) = 32 by decide), if_neg (show ¬ (38 : Int32) = 33 by decide), if_neg (show ¬ (38 : Int32) = 34 by decide), if_neg (show ¬ (38 : Int32) = 35 by decide), if_neg (show ¬ (38 : Int32) = 36 by decide), if_neg (show ¬ (38 : Int32) = 37 by decide), if_true]
      simp only [r1, oa_bs, oa_ut, e1, e2, lg_self, if_true, e5]
    refine ⟨_, ⟨B, J, M, K, rfl, h⟩, fun k => ?_⟩
    simp only [oa_ut]
    rw [b_law, if_neg hc, r0]
    simp only [oa_bs, hop]
    rw [if_neg o0, if_neg o1, if_neg o2, if_neg o3, if_neg o4, if_neg o5, if_neg o6, if_neg o7, if_neg o8, if_neg o9, if_neg o10, if_neg o11, if_neg o12, if_neg o13, if_neg o14, if_neg o15, if_neg o16, if_neg o17, if_neg o18, if_neg o19, if_neg o20, if_neg o21, if_neg o22, if_neg o23, if_neg o24, if_neg o25, if_neg o26, if_neg o27, if_neg o28, if_neg o29, if_neg o30, if_neg o31, if_neg o32, if_neg o33, if_neg o34, if_neg o35, if_neg o36, if_neg o37, if_neg o38, e5]
  · rintro s ⟨B, J, M, K, rfl, h⟩
    refine ⟨some 1, rfl, fun k => ?_⟩
    have hc : nI L - 5 < nI (5 * (L / 5)) := by
      by_cases l : 5 ≤ L
      · rw [show (5 : Int32) = nI 5 from rfl, pk_sub l]
        exact nI_lt (by omega) (by omega)
      · rw [show 5 * (L / 5) = 0 by omega]
        exact (show ∀ L, L < 5 → nI L - 5 < nI 0 by decide +kernel) L (by omega)
    simp only [oa_ut]
    rw [b_law, if_pos hc]
