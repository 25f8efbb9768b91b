/-! a line that tells one -/
/-- what a line of one gives -/
def OE (t : Nat) (f : Nat → Nat) (n a : Nat) (T0 M0 V0 : oa_I2) (o1 : Option (Int32 × oa_I2 × oa_I2)) (o2 : Option oa_I2) : Prop := ∃ T' V' M', FC T0 T' ∧ FG M0 M' ∧ o2 = some M' ∧ ((o1 = some (1, T', V') ∧ T' 1 3 = T0 1 3 + 1 ∧ T' 1 8 = T0 1 8 ∧ M' 3 = M0 3 ∧ M' 0 8 = M0 0 8 ∧ V' 0 = V0 0 ∧ V' 5 0 = nI (n + 1) ∧ M' 4 99 = nI (n + 1) ∧ TDX (n + 1) 0 V' (M' 4) ∧ ∃ s e k, OKt t f T' M' s e k ∧ a ≤ s) ∨ (o1 = some (0, T', V') ∧ BRt t T' M' ∧ ∃ q : Nat, q ≤ 6 ∧ M' 4 99 = nI q))
section ON
variable {T M V Y : oa_I2} {K : oa_J2} {t : Nat} {f : Nat → Nat} {n : Nat}
/-- behind the traits -/
theorem oneEnd {a : Nat} {V1 : oa_I2} (h : TP t f T Y) (hm : MID t f a T Y) (hc : RC Y) (hn : n < 6) (hX : TDX n 6 V1 (Y 4)) (hV : V1 5 0 = nI n) (h99 : Y 4 99 = nI n) : OE t f n a T Y V1 ((f_X4_advance T (va_up V1 5 (upd (V1 5) 0 (nI (n + 1))))).bind <| oa_u fun (y31 : Int32) (T32 : oa_I2) => if y31 = 0 then some (0, T32, va_up V1 5 (upd (V1 5) 0 (nI (n + 1)))) else ((f_X4_takeWiths T32 (va_up V1 5 (upd (V1 5) 0 (nI (n + 1)))) (nI n)).bind <| oa_u fun (y36 : Int32) => oa_u fun (T37 : oa_I2) (V38 : oa_I2) => if y36 = 0 then some (0, T37, V38) else ((f_X4_takeClosing T37 V38).bind <| oa_u fun (y42 : Int32) (T43 : oa_I2) => if y42 = 0 then some (0, T43, V38) else some (1, T43, V38)))) (((f_X7_nameHere (va_up Y 4 (upd (Y 4) (8 * n + 7) oNO)) K).bind fun y40 => l_X7_readOne_136 K (nI n) oa_fu (va_up Y 4 (upd (Y 4) (8 * n + 7) oNO)) 0 y40).bind fun M13 => b_X7_readLine_111 K M13) := by
  have hX1 : TDX (n + 1) 0 (va_up V1 5 (upd (V1 5) 0 (nI (n + 1)))) (upd (Y 4) (8 * n + 7) oNO) := TDX_one hX hn
  have hv0 : va_up V1 5 (upd (V1 5) 0 (nI (n + 1))) 0 = V1 0 := va_up_n _ _ (by omega)
  have hv5 : va_up V1 5 (upd (V1 5) 0 (nI (n + 1))) 5 0 = nI (n + 1) := by rw [va_up_s, upd_s]
  have hG : FG Y (va_up Y 4 (upd (Y 4) (8 * n + 7) oNO)) := FG_r (Or.inr rfl)
  have hc2 := RC_G hc hG
  have m3 : va_up Y 4 (upd (Y 4) (8 * n + 7) oNO) 3 = Y 3 := va_up_n _ _ (by omega)
  have m0 : va_up Y 4 (upd (Y 4) (8 * n + 7) oNO) 0 = Y 0 := va_up_n _ _ (by omega)
  have m4 : va_up Y 4 (upd (Y 4) (8 * n + 7) oNO) 4 = upd (Y 4) (8 * n + 7) oNO := va_up_s _ _ _
  have m99 : va_up Y 4 (upd (Y 4) (8 * n + 7) oNO) 4 99 = nI n := by rw [m4, upd_n _ _ (by omega)]; exact h99
  obtain ⟨T1, z1, z2⟩ := hm
  have hS := FS_of z1
  have hF := FC_of hS
  have hTP := TP_G h hF hG
  have z3 : ((∀ V, f_X4_advance T V = some (1, T1)) ∧ ∃ s e k, OKt t f T1 (va_up Y 4 (upd (Y 4) (8 * n + 7) oNO)) s e k ∧ a ≤ s) ∨ ((∀ V, f_X4_advance T V = some (0, T1)) ∧ BRt t T1 (va_up Y 4 (upd (Y 4) (8 * n + 7) oNO))) := by
    rcases z2 with ⟨q1, s, e, k, q2, q3⟩ | ⟨q1, q2⟩
    · exact Or.inl ⟨q1, s, e, k, OK_r q2 (by omega), q3⟩
    · exact Or.inr ⟨q1, BR_r q2 (by omega)⟩
  have hend : va_up Y 4 (upd (Y 4) (8 * n + 7) oNO) 4 99 + 1 = nI (n + 1) := by rw [m99, nI_1]
  generalize hV2 : va_up V1 5 (upd (V1 5) 0 (nI (n + 1))) = V2 at *
  rw [← m4] at hX1
  generalize hM : va_up Y 4 (upd (Y 4) (8 * n + 7) oNO) = M at *
  rcases z3 with ⟨q1, s, e, k, q2, q3⟩ | ⟨q1, q2⟩
  · obtain ⟨x, x1, x2⟩ := md_nameHere (K := K) hTP (OK_HM q2) hc2
    obtain ⟨T2, V3, M2, w1, w2, w3⟩ := withs (K := K) (p := n) hTP q2 hc2 hX1 (by omega) x1
    rw [hend] at w2
    rw [x1, q1 V2]
    simp only [oa_bs, oa_ut]
    rw [w2, if_neg (show ¬ (1 : Int32) = 0 by decide)]
    simp only [oa_bs]
    obtain ⟨f1, f2, f3, f4, f5, f6, f7⟩ := w1
    have hG3 : FG M (va_up M2 4 (upd (M2 4) 99 (nI (n + 1)))) := FG_trans f4 (FG_r (Or.inr rfl))
    have hF3 : FC T T2 := FC_trans hF f1
    have c99 : va_up M2 4 (upd (M2 4) 99 (nI (n + 1))) 4 99 = nI (n + 1) := by rw [va_up_s, upd_s]
    rcases w3 with ⟨u1, u2, u3, u4, s2, e2, k2, u5, u6⟩ | ⟨u1, u2⟩ | ⟨u1, Tp, s2, e2, u2, u3⟩
    · have hTP3 := TP_G hTP f1 hG3
      obtain ⟨T3, M3, c1, c2, c3, c4⟩ := closing (K := K) (V := V3) hTP3 (OK_r u5 (by omega))
      rw [u1]
      simp only [oa_bs, oa_ut]
      rw [if_neg (show ¬ (1 : Int32) = 0 by decide)]
      have c5 : M3 4 = upd (M2 4) 99 (nI (n + 1)) := (c2.1 4 (by omega)).trans (va_up_s _ _ _)
      refine ⟨T3, V3, M3, FC_trans hF3 c1, FG_trans (FG_trans hG hG3) (FG_of c2), c3, ?_⟩
      rcases c4 with ⟨d1, d2, d3, s3, e3, k3, d4, d5⟩ | ⟨d1, d2⟩
      · rw [d1]
        refine Or.inl ⟨rfl, ?_, ?_, ?_, ?_, u2.trans hv0, by rw [u3]; exact hv5, by rw [c5, upd_s], by rw [c5]; exact TDX_99 u4, s3, e3, k3, d4, by have := o_e u5; omega⟩
        · rw [d2, f2, hS.2.2.1]
        · rw [d3, f3, hS.2.2.2]
        · rw [c2.1 3 (by omega), va_up_n _ _ (by omega), f5, m3]
        · rw [c2.2 8 (by omega), va_up_n _ _ (by omega), f6, m0]
      · rw [d1]
        exact Or.inr ⟨rfl, d2, n + 1, by omega, by rw [c5, upd_s]⟩
    · rw [u1, br_111 (BR_r u2 (by omega))]
      exact ⟨T2, V3, _, hF3, FG_trans hG hG3, rfl, Or.inr ⟨rfl, BR_r u2 (by omega), n + 1, by omega, c99⟩⟩
    · have u4 := OK_r (g := upd (M2 4) 99 (nI (n + 1))) u2 (show 4 ≠ 0 by omega)
      obtain ⟨T3, M3, r1, r2, r3, r4, r5⟩ := both_mis (K := K) (V := V2) u4
      have e3 : T3 = T2 := by
        have := (u3 V2).symm.trans r1
        exact (congrArg (fun o => (o.getD (0, T)).2) this).symm
      subst e3
      rw [u1]
      have h111 : b_X7_readLine_111 K (va_up M2 4 (upd (M2 4) 99 (nI (n + 1)))) = some M3 := by
        obtain ⟨o1, o2, o3, o4, o5, o6, o7, o8, o9, o10, o11, o12, o13, o14⟩ := u4
        unfold b_X7_readLine_111 b_X7_readLine_131
        rw [if_pos o9, o6, if_neg (show ¬ nI 1 = 3 by decide), r2]
        simp only [oa_bs]
        rw [br_step r5]
        rfl
      exact ⟨_, V3, M3, hF3, FG_trans (FG_trans hG hG3) (FG_of r4), h111, Or.inr ⟨rfl, r5, n + 1, by omega, by rw [r4.1 4 (by omega)]; exact c99⟩⟩
  · obtain ⟨_, s2, e2, k2, hHM⟩ := id q2
    obtain ⟨x, x1, x2⟩ := md_nameHere (K := K) hTP hHM hc2
    have h136 : l_X7_readOne_136 K (nI n) oa_fu M 0 x = some (va_up M 4 (upd (M 4) 99 (M 4 99 + 1))) := by
      unfold l_X7_readOne_136
      exact oa_for (fun _ => (M, (0 : Int32), x)) 0 rfl (fun i hi => absurd hi (Nat.not_lt_zero i)) (fun kk => r136_br (br_ne q2)) oa_fu (by rw [oa_fu_eq]; omega)
    rw [x1, q1 V2]
    simp only [oa_bs]
    rw [h136]
    simp only [oa_bs]
    rw [br_111 (BR_r q2 (by omega)), hend]
    exact ⟨T1, V2, _, hF, FG_trans hG (FG_r (Or.inr rfl)), rfl, Or.inr ⟨rfl, BR_r q2 (by omega), n + 1, by omega, by rw [va_up_s, upd_s]⟩⟩
end ON
