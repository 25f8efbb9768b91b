/-! withs -/
section WI
variable {T M V : oa_I2} {K : oa_J2} {t : Nat} {f : Nat → Nat} {n p : Nat}
theorem note0 (hp : p < 6) : f_X4_noteWith T V (nI p) 0 = some (va_up V 1 (upd (V 1) (6 * 6 + p) (T 1 7))) := by
  unfold f_X4_noteWith f_X5_putTrait
  rw [if_pos rfl, show (6 : Int32) * 6 + nI p = nI (6 * 6 + p) from nI_add 36 p, oa_wr_nI (by omega) (by omega)]
  rfl
theorem note1 (hp : p < 6) : f_X4_noteWith T V (nI p) 1 = some (va_up V 1 (upd (V 1) (7 * 6 + p) (T 1 7))) := by
  unfold f_X4_noteWith f_X5_putTrait
  rw [if_neg (by decide), if_pos rfl, show (7 : Int32) * 6 + nI p = nI (7 * 6 + p) from nI_add 42 p, oa_wr_nI (by omega) (by omega)]
  rfl
theorem start_ok {v : Nat} (hp : p < 6) (hv : v < 6) : f_X5_start V (nI p) (nI v) = some (va_up (va_up V 2 (upd (V 2) p (V 2 p ||| ((1 : Int32) <<< (nI v &&& 31))))) 3 (upd (va_up V 2 (upd (V 2) p (V 2 p ||| ((1 : Int32) <<< (nI v &&& 31)))) 3) (p * 6 + v) 0)) := by
  unfold f_X5_start
  rw [oa_rd_nI (by omega) (by omega)]
  simp only [oa_bs]
  rw [oa_wr_nI (by omega) (by omega)]
  simp only [oa_bs, oa_lt]
  rw [if_neg (show ¬ nI v = 6 from nI_neq (b := 6) (by omega) (by omega) (by omega)), show nI p * 6 = nI (p * 6) from pk_mul p 6, nI_add, oa_wr_nI (by omega) (by omega)]
  rfl
theorem start_6 (hp : p < 6) : f_X5_start V (nI p) 6 = some (va_up V 2 (upd (V 2) p (V 2 p ||| ((1 : Int32) <<< (nI 6 &&& 31))))) := by
  unfold f_X5_start
  rw [oa_rd_nI (by omega) (by omega)]
  simp only [oa_bs]
  rw [oa_wr_nI (by omega) (by omega)]
  simp only [oa_bs, oa_lt]
  rw [if_pos trivial]
  rfl
theorem note2 {v : Nat} (hp : p < 6) (hv : v < 6) (h7 : T 1 7 = nI v) : f_X4_noteWith T V (nI p) 2 = some (va_up (va_up V 2 (upd (V 2) p (V 2 p ||| ((1 : Int32) <<< (nI v &&& 31))))) 3 (upd (va_up V 2 (upd (V 2) p (V 2 p ||| ((1 : Int32) <<< (nI v &&& 31)))) 3) (p * 6 + v) 0)) := by
  unfold f_X4_noteWith
  rw [if_neg (by decide), if_neg (by decide), if_pos rfl, h7, start_ok hp hv]
  rfl
theorem note3 (hp : p < 6) : f_X4_noteWith T V (nI p) 3 = some (va_up V 2 (upd (V 2) p (V 2 p ||| ((1 : Int32) <<< (nI 6 &&& 31))))) := by
  unfold f_X4_noteWith
  rw [if_neg (by decide), if_neg (by decide), if_neg (by decide), start_6 hp]
  rfl
/-- what one with gives -/
def WQ (t : Nat) (f : Nat → Nat) (n e : Nat) (T M V : oa_I2) (cl : (oa_I2 → oa_I2 → Int32 → Int32 → Option (Int32 × oa_I2 × oa_I2)) → Option (Int32 × oa_I2 × oa_I2)) (tk x3 : Int32) (md : Option oa_I2) : Prop := ∃ T' V' M', FC T T' ∧ T' 1 3 = T 1 3 ∧ T' 1 8 = T 1 8 ∧ FG M M' ∧ M' 3 = M 3 ∧ M' 0 8 = M 0 8 ∧ M' 4 99 = M 4 99 ∧ md = some M' ∧ ((∀ k4, cl k4 = k4 T' V' tk (x3 + 1)) ∧ TDX n 0 V' (M' 4) ∧ V' 0 = V 0 ∧ V' 5 = V 5 ∧ (∃ s' e' k', OKt t f T' M' s' e' k' ∧ e ≤ s') ∨ (∀ k4, cl k4 = some (0, T', V')) ∧ BRt t T' M')
theorem withN {s e k hi : Nat} {y tk x3 : Int32} {V' : Nat → oa_I2} {g : Nat → oa_P → oa_P} {cont : Int32 × oa_I2 → Option oa_I2} (h : TP t f T M) (ho : OKt t f T M s e k) (hh : hi < 2 ^ 31)
    (hnote : ∀ T1 v, v ≤ hi → T1 1 7 = nI v → f_X4_noteWith T1 V (nI p) y = some (V' v))
    (hmod : ∀ X v, v ≤ hi → cont (nI v, X) = some (va_up X 4 (g v (X 4))))
    (hX : ∀ v, v ≤ hi → TDX n 0 (V' v) (g v (M 4))) (hV : ∀ v, v ≤ hi → V' v 0 = V 0 ∧ V' v 5 = V 5) (h99 : ∀ v, v ≤ hi → g v (M 4) 99 = M 4 99) :
    WQ t f n e T M V (fun k4 => b_X4_takeWiths_86 (nI p) k4 T V tk x3 y 0 (nI hi)) tk x3 ((f_X7_step M K).bind fun M1 => (f_X7_number M1 K 0 (nI hi)).bind cont) := by
  obtain ⟨Y, y1, y2, y3⟩ := tokM (K := K) h ho
  have hTY := TP_G h (FC_refl _) (FG_of y2)
  obtain ⟨T1, Y1, n1, n2, n3⟩ := numM (K := K) (V := V) (lo := 0) (lo' := 0) (hi := hi) rfl rfl hh (by omega) hTY y3
  have d3 : Y1 3 = M 3 := (n2.1 3 (by omega)).trans (y2.1 3 (by omega))
  have d4 : Y1 4 = M 4 := (n2.1 4 (by omega)).trans (y2.1 4 (by omega))
  have d8 : Y1 0 8 = M 0 8 := (n2.2 8 (by omega)).trans (y2.2 8 (by omega))
  have hG : ∀ q, FG M (va_up Y1 4 q) := fun q => FG_trans (FG_trans (FG_of y2) (FG_of n2)) (FG_r (Or.inr rfl))
  unfold WQ
  rw [y1]
  simp only [oa_bs]
  rcases n3 with ⟨q1, v, v1, v2, v3, v4, b, vb, vt, T2, z1, z2⟩ | ⟨q1, q2, q3⟩
  · rw [v4]
    simp only [oa_bs]
    rw [hmod Y1 v v2, d4]
    have hF : FC T T2 := FC_trans (FC_of n1) (FC_of (FS_of z1))
    have hS := FS_of z1
    have he := o_e ho
    have hcl : ∀ k4, b_X4_takeWiths_86 (nI p) k4 T V tk x3 y 0 (nI hi) = ((f_X4_advance T1 (V' v)).bind <| oa_u fun (y29 : Int32) (T30 : oa_I2) => if y29 = 0 then some (0, T30, V' v) else k4 T30 (V' v) tk (x3 + 1)) := by
      intro k4
      unfold b_X4_takeWiths_86 b_X4_takeWiths_94
      rw [q1]
      simp only [oa_bs, oa_ut]
      rw [if_neg (show ¬ (1 : Int32) = 0 by decide), hnote T1 v v2 v3]
      rfl
    refine ⟨T2, V' v, va_up Y1 4 (g v (M 4)), hF, hS.2.2.1.trans n1.2.2.1, hS.2.2.2.trans n1.2.2.2, hG _, (va_up_n _ _ (by omega)).trans d3, ?_, ?_, rfl, ?_⟩
    · rw [va_up_n _ _ (by omega)]; exact d8
    · rw [va_up_s]; exact h99 v v2
    · rcases z2 with ⟨p1, s', e', k', p2, p3⟩ | ⟨p1, p2⟩
      · refine Or.inl ⟨fun k4 => ?_, by rw [va_up_s]; exact hX v v2, (hV v v2).1, (hV v v2).2, s', e', k', OK_r p2 (by omega), by omega⟩
        show b_X4_takeWiths_86 (nI p) k4 T V tk x3 y 0 (nI hi) = _
        rw [hcl, p1]
        rfl
      · refine Or.inr ⟨fun k4 => ?_, BR_r p2 (by omega)⟩
        show b_X4_takeWiths_86 (nI p) k4 T V tk x3 y 0 (nI hi) = _
        rw [hcl, p1]
        rfl
  · rw [q2]
    simp only [oa_bs]
    rw [show (0 : Int32) = nI 0 from rfl, hmod Y1 0 (by omega), d4]
    refine ⟨T1, V, va_up Y1 4 (g 0 (M 4)), FC_of n1, n1.2.2.1, n1.2.2.2, hG _, (va_up_n _ _ (by omega)).trans d3, ?_, ?_, rfl, Or.inr ⟨fun k4 => ?_, BR_r q3 (by omega)⟩⟩
    · rw [va_up_n _ _ (by omega)]; exact d8
    · rw [va_up_s]; exact h99 0 (by omega)
    · show b_X4_takeWiths_86 (nI p) k4 T V tk x3 y 0 (nI hi) = _
      unfold b_X4_takeWiths_86
      rw [q1]
      rfl
end WI
