/-! withs, one by one -/
section WJ
variable {T M V : oa_I2} {K : oa_J2} {t : Nat} {f : Nat → Nat} {n p : Nat}
theorem i_8p (p w : Nat) : (8 : Int32) * nI p + nI w = nI (8 * p + w) := by rw [show (8 : Int32) * nI p = nI (8 * p) from pk_mul 8 p, nI_add]
theorem i_7p (p v : Nat) : (48 : Int32) + (7 : Int32) * nI p + nI v = nI (48 + (7 * p + v)) := by rw [show (7 : Int32) * nI p = nI (7 * p) from pk_mul 7 p, show (48 : Int32) + nI (7 * p) = nI (48 + 7 * p) from nI_add 48 _, nI_add, Nat.add_assoc]
theorem with0 {s e k : Nat} {tk x3 : Int32} (h : TP t f T M) (ho : OKt t f T M s e k) (hX : TDX n 0 V (M 4)) (hp : p < n) : WQ t f n e T M V (fun k4 => b_X4_takeWiths_86 (nI p) k4 T V tk x3 0 0 (nI 20)) tk x3 (f_X7_readWith M K (nI p) 9) := by
  have h6 := hX.1
  refine withN (K := K) (p := p) (V' := fun v => va_up V 1 (upd (V 1) (6 * 6 + p) (nI v))) (g := fun v P => upd P (8 * p + 6) (nI v)) (cont := oa_u fun (y27 : Int32) (M28 : oa_I2) => (oa_wr (M28 4) 100 ((8 * nI p) + 6) y27).bind fun (g31 : Nat → Int32) => oa_let (va_up M28 4 g31) fun (M33 : oa_I2) => some (M33)) h ho (by omega) (fun T1 v hv h7 => ?_) (fun X v hv => ?_) (fun v hv => ?_) (fun v hv => ⟨va_up_n _ _ (by omega), va_up_n _ _ (by omega)⟩) (fun v hv => upd_n _ _ (by omega))
  · rw [note0 (by omega), h7]
  · show (oa_wr (X 4) 100 ((8 * nI p) + nI 6) (nI v)).bind _ = _
    rw [i_8p, oa_wr_nI (by omega) (by omega)]
    rfl
  · exact TDX_with hX hp (Or.inl rfl) ⟨fun c => by omega, fun _ c => by omega, fun c => by omega, fun c => by omega⟩
theorem with1 {s e k : Nat} {tk x3 : Int32} (h : TP t f T M) (ho : OKt t f T M s e k) (hX : TDX n 0 V (M 4)) (hp : p < n) : WQ t f n e T M V (fun k4 => b_X4_takeWiths_86 (nI p) k4 T V tk x3 1 0 (nI 5)) tk x3 (f_X7_readWith M K (nI p) 10) := by
  have h6 := hX.1
  refine withN (K := K) (p := p) (V' := fun v => va_up V 1 (upd (V 1) (7 * 6 + p) (nI v))) (g := fun v P => upd P (8 * p + 7) (nI v)) (cont := oa_u fun (y27 : Int32) (M28 : oa_I2) => (oa_wr (M28 4) 100 ((8 * nI p) + 7) y27).bind fun (g31 : Nat → Int32) => oa_let (va_up M28 4 g31) fun (M33 : oa_I2) => some (M33)) h ho (by omega) (fun T1 v hv h7 => ?_) (fun X v hv => ?_) (fun v hv => ?_) (fun v hv => ⟨va_up_n _ _ (by omega), va_up_n _ _ (by omega)⟩) (fun v hv => upd_n _ _ (by omega))
  · rw [note1 (by omega), h7]
  · show (oa_wr (X 4) 100 ((8 * nI p) + nI 7) (nI v)).bind _ = _
    rw [i_8p, oa_wr_nI (by omega) (by omega)]
    rfl
  · exact TDX_with hX hp (Or.inr rfl) ⟨fun c => by omega, fun _ c => by omega, fun c => by omega, fun c => Or.inr ⟨v, hv, rfl⟩⟩
theorem with2 {s e k : Nat} {tk x3 : Int32} (h : TP t f T M) (ho : OKt t f T M s e k) (hX : TDX n 0 V (M 4)) (hp : p < n) : WQ t f n e T M V (fun k4 => b_X4_takeWiths_86 (nI p) k4 T V tk x3 2 0 (nI 5)) tk x3 (f_X7_readWith M K (nI p) 11) := by
  have h6 := hX.1
  refine withN (K := K) (p := p) (V' := fun v => va_up (va_up V 2 (upd (V 2) p (V 2 p ||| ((1 : Int32) <<< (nI v &&& 31))))) 3 (upd (va_up V 2 (upd (V 2) p (V 2 p ||| ((1 : Int32) <<< (nI v &&& 31)))) 3) (p * 6 + v) 0)) (g := fun v P => upd P (48 + (7 * p + v)) 1) (cont := oa_u fun (y27 : Int32) (M28 : oa_I2) => (oa_wr (M28 4) 100 ((48 + (7 * nI p)) + y27) 1).bind fun (g31 : Nat → Int32) => oa_let (va_up M28 4 g31) fun (M33 : oa_I2) => some (M33)) h ho (by omega) (fun T1 v hv h7 => ?_) (fun X v hv => ?_) (fun v hv => ?_) (fun v hv => ⟨(va_up_n _ _ (by omega)).trans (va_up_n _ _ (by omega)), (va_up_n _ _ (by omega)).trans (va_up_n _ _ (by omega))⟩) (fun v hv => upd_n _ _ (by omega))
  · rw [note2 (by omega) (by omega) h7]
  · show (oa_wr (X 4) 100 ((48 + (7 * nI p)) + nI v) 1).bind _ = _
    rw [i_7p, oa_wr_nI (by omega) (by omega)]
    rfl
  · exact TDX_age (TDX_angry hX hp (by omega))
theorem with3 {s e k : Nat} {tk x3 : Int32} (h : TP t f T M) (ho : OKt t f T M s e k) (hX : TDX n 0 V (M 4)) (hp : p < n) : WQ t f n e T M V (fun k4 => b_X4_takeWiths_94 (nI p) k4 T V tk x3 3) tk x3 (f_X7_readWith M K (nI p) 12) := by
  have h6 := hX.1
  obtain ⟨Y, y1, y2, T2, z1, z2⟩ := tokM (K := K) h ho
  have hS := FS_of z1
  have he := o_e ho
  have hmd : f_X7_readWith M K (nI p) 12 = some (va_up Y 4 (upd (Y 4) (48 + (7 * p + 6)) 1)) := by
    have : f_X7_readWith M K (nI p) 12 = (f_X7_step M K).bind fun (M1 : oa_I2) => (oa_wr (M1 4) 100 ((48 + (7 * nI p)) + nI 6) 1).bind fun (g7 : Nat → Int32) => oa_let (va_up M1 4 g7) fun (M9 : oa_I2) => some (M9) := rfl
    rw [this, y1]
    simp only [oa_bs]
    rw [i_7p, oa_wr_nI (by omega) (by omega)]
    rfl
  have hcl : ∀ k4, b_X4_takeWiths_94 (nI p) k4 T V tk x3 3 = ((f_X4_advance T (va_up V 2 (upd (V 2) p (V 2 p ||| ((1 : Int32) <<< (nI 6 &&& 31)))))).bind <| oa_u fun (y29 : Int32) (T30 : oa_I2) => if y29 = 0 then some (0, T30, va_up V 2 (upd (V 2) p (V 2 p ||| ((1 : Int32) <<< (nI 6 &&& 31))))) else k4 T30 (va_up V 2 (upd (V 2) p (V 2 p ||| ((1 : Int32) <<< (nI 6 &&& 31))))) tk (x3 + 1)) := by
    intro k4
    unfold b_X4_takeWiths_94
    rw [note3 (by omega)]
    rfl
  have d4 : Y 4 = M 4 := y2.1 4 (by omega)
  refine ⟨T2, va_up V 2 (upd (V 2) p (V 2 p ||| ((1 : Int32) <<< (nI 6 &&& 31)))), _, FC_of hS, hS.2.2.1, hS.2.2.2, FG_trans (FG_of y2) (FG_r (Or.inr rfl)), (va_up_n _ _ (by omega)).trans (y2.1 3 (by omega)), ?_, ?_, hmd, ?_⟩
  · rw [va_up_n _ _ (by omega)]; exact y2.2 8 (by omega)
  · rw [va_up_s, d4, upd_n _ _ (by omega)]
  · rcases z2 with ⟨p1, s', e', k', p2, p3⟩ | ⟨p1, p2⟩
    · refine Or.inl ⟨fun k4 => ?_, ?_, va_up_n _ _ (by omega), va_up_n _ _ (by omega), s', e', k', OK_r p2 (by omega), p3⟩
      · show b_X4_takeWiths_94 (nI p) k4 T V tk x3 3 = _
        rw [hcl, p1]
        rfl
      · rw [va_up_s, d4]
        exact TDX_angry hX hp (by omega)
    · refine Or.inr ⟨fun k4 => ?_, BR_r p2 (by omega)⟩
      show b_X4_takeWiths_94 (nI p) k4 T V tk x3 3 = _
      rw [hcl, p1]
      rfl
end WJ
