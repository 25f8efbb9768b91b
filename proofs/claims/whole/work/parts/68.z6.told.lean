/-! a village told: both -/
theorem TDX_0 {V : oa_I2} {P : oa_P} (h : ∀ k, k < 100 → P k = 0) : TDX 0 0 (oa_clr V) P := by
  have ha : ∀ r, r < 6 → ∀ p, p < 7 → an P r p = false := by
    intro r hr p hp
    unfold an
    rw [h _ (by omega)]
    decide
  refine ⟨by omega, fun w p hw hp hq => by omega, fun p _ hp => ⟨?_, ?_, h _ (by omega)⟩, fun r hr => ?_, fun k hk => ?_, fun r hr p hp => Or.inl (h _ (by omega)), fun k hk => ?_, ?_, ?_, ?_⟩
  · show (if 42 ≤ 42 + p ∧ 42 + p < 48 then -4 else oa_fill 48 0 (V 1) (42 + p)) = oNO
    rw [if_pos (by omega)]; rfl
  · show (if 42 ≤ 36 + p ∧ 36 + p < 48 then -4 else oa_fill 48 0 (V 1) (36 + p)) = 0
    rw [if_neg (by omega), oa_fill_at, if_pos (by omega)]
  · show oa_fill 6 0 (V 2) r = _
    rw [oa_fill_at, if_pos hr]
    simp only [oa_mk_succ]
    rw [ha r hr 0 (by omega), ha r hr 1 (by omega), ha r hr 2 (by omega), ha r hr 3 (by omega), ha r hr 4 (by omega), ha r hr 5 (by omega), ha r hr 6 (by omega)]
    rfl
  · show oa_fill 36 0 (V 3) k = 0
    rw [oa_fill_at, if_pos hk]
  · show oa_fill 6 0 (V 4) k = P (90 + k) + 0
    rw [oa_fill_at, if_pos hk, h _ (by omega)]; rfl
  · show (if 1 < 4 then (0 : Int32) else V 5 1) = P 96 + 0
    rw [if_pos (by omega), h _ (by omega)]; rfl
  · show (if 2 < 4 then (0 : Int32) else V 5 2) = P 97 + 0
    rw [if_pos (by omega), h _ (by omega)]; rfl
  · show (if 3 < 4 then (0 : Int32) else V 5 3) = P 98 + 0
    rw [if_pos (by omega), h _ (by omega)]; rfl
theorem TDR_0 {V : oa_I2} {R : oa_P} (h0 : R 0 = 1) (h1 : R 1 = 4) (h2 : R 2 = 10) : TDR (oa_clr V) R := by
  refine ⟨fun k hk => ?_, Or.inl h0, 4, h1, by omega, by omega⟩
  show va_cpy (oa_tbv 2) (V 0) 0 0 3 k = R k
  rw [va_cpy_at _ _ hk]
  rcases k with _ | _ | _ | k
  · rw [h0]; rfl
  · rw [h1]; rfl
  · rw [h2]; rfl
  · omega
/-- the model's end of a told village -/
noncomputable def vE (K : oa_J2) (M32 : oa_I2) (c : Int32) : Option (Int32 × oa_I2) :=
  if M32 0 2 ≤ 0 then l_X7_village_122 K c oa_fu (va_up M32 0 (upd (upd (M32 0) 0 0) 1 (M32 0 2))) 0 else some ((-10) - M32 0 3, va_up M32 0 (upd (upd (M32 0) 0 0) 1 (M32 0 2)))
theorem v88 {K : oa_J2} {M : oa_I2} {c : Int32} : b_X7_village_88 K M c = (f_X7_looksBehind M K).bind fun M32 => vE K M32 c := by
  unfold b_X7_village_88
  cases f_X7_looksBehind M K with
  | none => rfl
  | some M32 =>
    simp only [oa_bs, oa_lt]
    unfold vE
    have e2 : va_up (va_up M32 0 (upd (M32 0) 0 0)) 0 (upd (va_up M32 0 (upd (M32 0) 0 0) 0) 1 (va_up M32 0 (upd (M32 0) 0 0) 0 2)) = va_up M32 0 (upd (upd (M32 0) 0 0) 1 (M32 0 2)) := by
      rw [rd0n _ _ (by omega), va_up_s, oa_up2]
    rw [e2, va_up_s, upd_n _ _ (show 2 ≠ 1 by omega), upd_n _ _ (show 2 ≠ 0 by omega), upd_n _ _ (show 3 ≠ 1 by omega), upd_n _ _ (show 3 ≠ 0 by omega)]
/-- what a told village gives -/
def TE (T0 M0 : oa_I2) (K : oa_J2) (o1 : Option (oa_I2 × oa_I2)) (o2 : Option (Int32 × oa_I2)) : Prop := ∃ (T' V' M' : oa_I2) (c : Int32), FC T0 T' ∧ FG M0 M' ∧ o1 = some (va_up T' 1 (upd (T' 1) 0 0), V') ∧ o2 = vE K M' c ∧ ((T' 1 1 = 0 ∧ M' 0 2 = 0 ∧ T' 1 3 = c ∧ TDR V' (M' 3) ∧ ∃ m : Nat, V' 5 0 = nI m ∧ M' 4 99 = nI m ∧ TDX m 0 V' (M' 4) ∧ ok1 (M' 4) m m = true) ∨ ∃ t, BRt t T' M')
theorem lb_br {M : oa_I2} {K : oa_J2} {x : Int32} (h : ¬ M 0 2 = 0) : b_X7_looksBehind_209 K M x = some M := by
  unfold b_X7_looksBehind_209
  rw [if_neg h]
theorem ZE_TE {t : Nat} {f : Nat → Nat} {K : oa_J2} {T M : oa_I2} {o1 : Option (oa_I2 × oa_I2)} {o2 : Option (Int32 × oa_I2)} (h : TP t f T M) (hz : ZE t f K T M o1 o2) : TE T M K o1 o2 := by
  obtain ⟨T1, V1, M1, c, f1, f2, z2, z⟩ := hz
  have hTP := TP_G h f1 f2
  rw [v88] at z2
  rcases z with ⟨z1, z3, z4, ⟨m, z5, z6, z7⟩, s, e, z8⟩ | ⟨z1, z3, q, q6, z4⟩
  · have hm6 := z7.1
    have z8' := z8
    obtain ⟨o1', o2', o3, o4, o5, o6, o7, o8, o9, o10, o11, o12, o13, o14⟩ := z8'
    have h06 : T1 1 0 = T1 1 6 := by rw [hTP.2.1, o3, o12 rfl]
    have t95 : b_X4_tell_95 T1 V1 1 = (f_X4_checkAll T1 V1).bind fun T39 => some (va_up T39 1 (upd (T39 1) 0 0), V1) := by
      unfold b_X4_tell_95
      rw [if_neg (show ¬ (1 : Int32) = 0 by decide)]
      rfl
    rw [t95, check z7 z4 z5, h06] at z1
    rw [looks hm6 z6, if_pos o9] at z2
    cases k1 : ok1 (M1 4) m m
    · rw [k1, if_neg (by decide)] at z1 z2
      obtain ⟨T2, M2, r1, r2, r3, r4, r5⟩ := both_fail (K := K) (V := V1) (c := 6) (x := 6) z8 (by omega) (by omega) rfl
      rw [r1] at z1
      rw [r2, oa_bs, lb_br (br_ne r5), oa_bs] at z2
      exact ⟨T2, V1, M2, c, FC_trans f1 (FC_of (FS_of r3)), FG_trans f2 (FG_of r4), z1, z2, Or.inr ⟨t, r5⟩⟩
    · rw [k1, if_pos rfl] at z1 z2
      cases k2 : ok2 (M1 3) (M1 4) m
      · rw [k2, if_neg (by decide)] at z1
        obtain ⟨T2, M2, r1, r2, r3, r4, r5⟩ := both_fail (K := K) (V := V1) (c := 7) (x := 7) z8 (by omega) (by omega) rfl
        rw [r1] at z1
        have e209 : b_X7_looksBehind_209 K M1 (oa_bi false) = some M2 := by
          unfold b_X7_looksBehind_209
          rw [if_pos o9, if_pos (show oa_bi false = 0 from rfl), r2]
          rfl
        rw [k2, e209, oa_bs] at z2
        exact ⟨T2, V1, M2, c, FC_trans f1 (FC_of (FS_of r3)), FG_trans f2 (FG_of r4), z1, z2, Or.inr ⟨t, r5⟩⟩
      · rw [k2, if_pos rfl, oa_bs] at z1
        have e209 : b_X7_looksBehind_209 K M1 (oa_bi true) = some M1 := by
          unfold b_X7_looksBehind_209
          rw [if_pos o9, if_neg (show ¬ oa_bi true = 0 by decide)]
        rw [k2, e209, oa_bs] at z2
        exact ⟨T1, V1, M1, c, f1, f2, z1, z2, Or.inl ⟨o8, o9, z3, z4, m, z5, z6, z7, k1⟩⟩
  · rw [looks q6 z4, if_neg (br_ne z3), lb_br (br_ne z3), oa_bs] at z2
    refine ⟨T1, V1, M1, c, f1, f2, ?_, z2, Or.inr ⟨t, z3⟩⟩
    rw [z1]
    unfold b_X4_tell_95
    rw [if_pos rfl]
    rfl
/-- both tell -/
theorem told {t : Nat} {f : Nat → Nat} {T M V : oa_I2} {K : oa_J2} (h : TP t f T M) (hc : RC M) : TE T M K (f_X4_tell T V) (f_X7_village M K) := by
  obtain ⟨MS, s1, s2, s3, s4, s5, s6, s7, s8, s9⟩ := md_vstart (M := M) (K := K)
  rw [s9]
  have hT : ∃ TS : oa_I2, FC T TS ∧ TS 1 1 = 0 ∧ TS 1 3 = 0 ∧ TS 1 4 = 0 ∧ TS 1 8 = 0 ∧ f_X4_tell T V = ((f_X4_advance TS (oa_clr V)).bind <| oa_u fun (y12 : Int32) (T13 : oa_I2) => l_X4_tell_34 oa_fu T13 (oa_clr V) y12 0) := by
    unfold f_X4_tell
    rw [f_X5_clear_eq]
    simp only [oa_bs, oa_lt]
    refine ⟨_, ?_, ?_, ?_, ?_, ?_, rfl⟩
    · exact FC_trans (FC_up (by omega)) (FC_trans (FC_up (by omega)) (FC_trans (FC_up (by omega)) (FC_up (by omega))))
    · rw [rd1n _ _ (by omega), rd1n _ _ (by omega), rd1n _ _ (by omega), rd1]
    · rw [rd1n _ _ (by omega), rd1n _ _ (by omega), rd1]
    · rw [rd1n _ _ (by omega), rd1]
    · rw [rd1]
  obtain ⟨TS, u1, u2, u3, u4, u5, u6⟩ := hT
  rw [u6]
  have hTP := TP_G h u1 s1
  obtain ⟨T1, M1, v1, v2, v3, v4⟩ := tok (K := K) (V := oa_clr V) (a := 0) hTP (by omega) u4 s3 s2 u2
  have hTP1 := TP_F hTP v1 v2
  have hFC := FC_trans u1 (FC_of (FS_of v1))
  have hFG := FG_trans s1 (FG_of v2)
  have w4 : M1 4 = MS 4 := v2.1 4 (by omega)
  have w3 : M1 3 = MS 3 := v2.1 3 (by omega)
  have w99 : M1 4 99 = nI 0 := by rw [w4, s5 99 (by omega)]; rfl
  rw [v3, oa_bs]
  have key : TE T1 M1 K ((f_X4_advance TS (oa_clr V)).bind <| oa_u fun (y12 : Int32) (T13 : oa_I2) => l_X4_tell_34 oa_fu T13 (oa_clr V) y12 0) (l_X7_village_64 K oa_fu M1 0) := by
    refine ZE_TE hTP1 ?_
    rcases v4 with ⟨x1, s, e, k, x2, x3⟩ | ⟨x1, x2⟩
    · rw [x1]
      refine lines (n := 0) hTP1 x2 (RC_G hc hFG) ?_ rfl w99 ?_ ?_ ?_
      · rw [w4]; exact TDX_0 s5
      · rw [w3]; exact TDR_0 s6 s7 s8
      · refine ⟨0, by omega, ?_, ?_⟩
        · rw [(FS_of v1).2.2.2, u5]; rfl
        · rw [v2.2 8 (by omega), s4]; rfl
      · rw [(FS_of v1).2.2.1, u3]
    · rw [x1]
      refine ⟨T1, oa_clr V, M1, 0, FC_refl _, FG_refl _, ?_, Or.inr ⟨?_, x2, 0, by omega, w99⟩⟩
      · unfold l_X7_village_64
        exact oa_for (fun _ => (M1, 0)) 0 rfl (fun i hi => absurd hi (by omega)) (fun k => by simp only [oa_ut]; exact v88_br x2) oa_fu (by rw [oa_fu_eq]; omega)
      · show l_X4_tell_34 oa_fu T1 (oa_clr V) 0 0 = _
        unfold l_X4_tell_34
        exact oa_for (fun _ => (T1, oa_clr V, 0, 0)) 0 rfl (fun i hi => absurd hi (by omega)) (fun k => by simp only [oa_ut]; exact t34_0) oa_fu (by rw [oa_fu_eq]; omega)
  obtain ⟨T', V', M', c, g1, g2, g3, g4, g5⟩ := key
  exact ⟨T', V', M', c, FC_trans hFC g1, FG_trans hFG g2, g3, g4, g5⟩
