/-! a line that tells one: the traits in step -/
section OQ
variable {K : oa_J2} {t : Nat} {f : Nat → Nat} {n : Nat}
theorem put_ok {V : oa_I2} {w p : Nat} {x : Int32} (hw : w < 8) (hp : p < 6) : f_X5_putTrait V (nI w) (nI p) x = some (va_up V 1 (upd (V 1) (w * 6 + p) x)) := by
  unfold f_X5_putTrait
  rw [show nI w * 6 = nI (w * 6) from pk_mul w 6, nI_add, oa_wr_nI (by omega) (by omega)]
  rfl
theorem tt_lo : ∀ i, i < 4 → oa_rd (oa_tbv 0) (oa_tln 0) (nI (1 + i)) = some 0 ∧ oa_rd (oa_tbv 1) (oa_tln 1) (nI (1 + i)) = some 20 := by decide +kernel
theorem tt_5 : oa_rd (oa_tbv 0) (oa_tln 0) (nI 5) = some 1 ∧ oa_rd (oa_tbv 1) (oa_tln 1) (nI 5) = some 4 := by decide +kernel
theorem c61_s {T V : oa_I2} {i : Nat} {kk : oa_I2 → oa_I2 → Int32 → Option (Int32 × oa_I2 × oa_I2)} (hi : i < 4) (hn : n < 6) : b_X4_takeOne_61 (nI n) kk T V (nI (1 + i)) = ((f_X4_takeNumber T V 0 20).bind <| oa_u fun (y : Int32) (X : oa_I2) => if y = 0 then some (0, X, V) else kk X (va_up V 1 (upd (V 1) ((1 + i) * 6 + n) (X 1 7))) (nI (1 + (i + 1)))) := by
  unfold b_X4_takeOne_61
  rw [if_neg (show ¬ (5 : Int32) < nI (1 + i) from nI_nlt (a := 5) (by omega) (by omega)), (tt_lo i hi).1, (tt_lo i hi).2]
  simp only [oa_bs]
  congr 1
  funext ⟨y, X⟩
  simp only [oa_ut]
  rw [put_ok (by omega) hn]
  simp only [oa_bs]
  rw [nI_1, Nat.add_assoc]
theorem c61_5 {T V : oa_I2} {kk : oa_I2 → oa_I2 → Int32 → Option (Int32 × oa_I2 × oa_I2)} (hn : n < 6) : b_X4_takeOne_61 (nI n) kk T V (nI 5) = ((f_X4_takeNumber T V 1 4).bind <| oa_u fun (y : Int32) (X : oa_I2) => if y = 0 then some (0, X, V) else kk X (va_up V 1 (upd (V 1) (5 * 6 + n) (X 1 7))) (nI 6)) := by
  unfold b_X4_takeOne_61
  rw [if_neg (show ¬ (5 : Int32) < nI 5 by decide), tt_5.1, tt_5.2]
  simp only [oa_bs]
  congr 1
  funext ⟨y, X⟩
  simp only [oa_ut]
  rw [put_ok (by omega) hn]
  rfl
theorem c61_e {T V : oa_I2} {kk : oa_I2 → oa_I2 → Int32 → Option (Int32 × oa_I2 × oa_I2)} (hV : V 5 0 = nI n) : b_X4_takeOne_61 (nI n) kk T V (nI 6) = ((f_X4_advance T (va_up V 5 (upd (V 5) 0 (nI (n + 1))))).bind <| oa_u fun (y31 : Int32) (T32 : oa_I2) => if y31 = 0 then some (0, T32, va_up V 5 (upd (V 5) 0 (nI (n + 1)))) else ((f_X4_takeWiths T32 (va_up V 5 (upd (V 5) 0 (nI (n + 1)))) (nI n)).bind <| oa_u fun (y36 : Int32) => oa_u fun (T37 : oa_I2) (V38 : oa_I2) => if y36 = 0 then some (0, T37, V38) else ((f_X4_takeClosing T37 V38).bind <| oa_u fun (y42 : Int32) (T43 : oa_I2) => if y42 = 0 then some (0, T43, V38) else some (1, T43, V38)))) := by
  unfold b_X4_takeOne_61
  rw [if_pos (show (5 : Int32) < nI 6 by decide), hV, nI_1]
  rfl
/-- the model runs on behind a broken trait -/
theorem brk {T V W : oa_I2} {X Y Z : oa_I2} {a i fuel : Nat} (hn : n < 6) (hi : i ≤ 4) (hf : 4 - i < fuel) (h1 : FS T X) (h2 : FM Y Z) (hT : TP t f T Y) (hc : RC Y) (h99 : Y 4 99 = nI n) (hb : BRt t X Z) : OE t f n a T Y V (some (0, X, W)) ((oa_fix (o68 K n) fuel (Z, nI (1 + i))).bind fun M13 => b_X7_readLine_111 K M13) := by
  obtain ⟨g, g1, g2⟩ := br_68 (K := K) hn (4 - i) i fuel Z (by omega) hf hb (TP_G hT (FC_of h1) (FG_of h2)) (RC_G hc (FG_of h2))
  rw [g1]
  simp only [oa_bs]
  rw [br_111 (BR_r hb (by omega))]
  refine ⟨X, W, _, FC_of h1, FG_trans (FG_of h2) (FG_r (Or.inr rfl)), rfl, Or.inr ⟨rfl, BR_r hb (by omega), n + 1, by omega, ?_⟩⟩
  rw [va_up_s, g2, h2.1 4 (by omega), h99, nI_1]
theorem traits (hn : n < 6) : ∀ (j i fuel fuel' : Nat) (T V Y : oa_I2) (a : Nat), i + j = 4 → j + 1 < fuel → j < fuel' → TP t f T Y → MID t f a T Y → RC Y → TDX n (1 + i) V (Y 4) → V 5 0 = nI n → Y 4 99 = nI n → OE t f n a T Y V (oa_fix (o61 n) fuel (T, V, nI (1 + i))) ((oa_fix (o68 K n) fuel' (Y, nI (1 + i))).bind fun M13 => b_X7_readLine_111 K M13) := by
  intro j
  induction j with
  | zero =>
    intro i fuel fuel' T V Y a hi hf hf' hT hm hc hX hV h99
    obtain ⟨fu, rfl⟩ : ∃ fu, fuel = fu + 2 := ⟨fuel - 2, by omega⟩
    obtain ⟨gu, rfl⟩ : ∃ gu, fuel' = gu + 1 := ⟨fuel' - 1, by omega⟩
    have : i = 4 := by omega
    subst this
    have e1 : oa_fix (o61 n) (fu + 2) (T, V, nI (1 + 4)) = b_X4_takeOne_61 (nI n) (fun T V x3 => oa_fix (o61 n) (fu + 1) (T, V, x3)) T V (nI 5) := rfl
    have e2 : ∀ Z : oa_I2, oa_fix (o68 K n) (gu + 1) (Z, nI (1 + 4)) = b_X7_readOne_68 K (nI n) (fun M x3 => oa_fix (o68 K n) gu (M, x3)) Z (nI 5) := fun Z => rfl
    obtain ⟨X, Z, n1, n2, n3⟩ := numM (K := K) (V := V) (lo := 1) (lo' := 1) (hi := 4) (hi' := 4) rfl rfl (by omega) (by omega) hT hm
    rcases n3 with ⟨q1, v, v1, v2, v3, v4, b, vb, vt, v5⟩ | ⟨q1, q2, q3⟩
    · have d4 : Z 4 = Y 4 := n2.1 4 (by omega)
      have hX2 : TDX n 6 (va_up V 1 (upd (V 1) (5 * 6 + n) (nI v))) (va_up Z 4 (upd (Z 4) (8 * n + 5) (nI v)) 4) := by
        rw [va_up_s, d4]
        exact TDX_trait hX hn (by omega) ⟨fun c => by omega, fun _ c => by omega, fun _ => ⟨v, v1, v2, rfl⟩, fun c => by omega⟩
      have hG : FG Y (va_up Z 4 (upd (Z 4) (8 * n + 5) (nI v))) := FG_trans (FG_of n2) (FG_r (Or.inr rfl))
      have hm2 : MID t f b X (va_up Z 4 (upd (Z 4) (8 * n + 5) (nI v))) := by
        obtain ⟨X2, z1, z2⟩ := v5
        rcases z2 with ⟨p1, s, e, k, p2, p3⟩ | ⟨p1, p2⟩
        · exact ⟨X2, z1, Or.inl ⟨p1, s, e, k, OK_r p2 (by omega), p3⟩⟩
        · exact ⟨X2, z1, Or.inr ⟨p1, BR_r p2 (by omega)⟩⟩
      have hV2 : va_up V 1 (upd (V 1) (5 * 6 + n) (nI v)) 5 0 = nI n := by rw [va_up_n _ _ (by omega)]; exact hV
      have key := oneEnd (K := K) (TP_G hT (FC_of n1) hG) hm2 (RC_G hc hG) hn hX2 hV2 (by rw [va_up_s, upd_n _ _ (by omega), d4]; exact h99)
      have e3 : oa_fix (o61 n) (fu + 1) (X, va_up V 1 (upd (V 1) (5 * 6 + n) (nI v)), nI 6) = b_X4_takeOne_61 (nI n) (fun T V x3 => oa_fix (o61 n) fu (T, V, x3)) X (va_up V 1 (upd (V 1) (5 * 6 + n) (nI v))) (nI 6) := rfl
      rw [e1, e2, c61_5 hn, b68_e hn, q1, v4]
      simp only [oa_bs, oa_ut]
      rw [if_neg (show ¬ (1 : Int32) = 0 by decide), v3, e3, c61_e hV2]
      refine OE_up n1 hG ((va_up_n _ _ (by omega)).trans (n2.1 3 (by omega))) ?_ (va_up_n _ _ (by omega)) (by omega) key
      rw [va_up_n _ _ (by omega)]; exact n2.2 8 (by omega)
    · have e4 : oa_fix (o68 K n) (gu + 1) (Y, nI (1 + 4)) = oa_fix (o68 K n) (gu + 1) (Z, nI (1 + 4)) := by rw [e2, e2, b68_e hn, b68_e hn, q2, br_number q3]
      rw [e4, e1, c61_5 hn, q1]
      exact brk hn (by omega) (by omega) n1 n2 hT hc h99 q3
  | succ j ih =>
    intro i fuel fuel' T V Y a hi hf hf' hT hm hc hX hV h99
    obtain ⟨fu, rfl⟩ : ∃ fu, fuel = fu + 1 := ⟨fuel - 1, by omega⟩
    obtain ⟨gu, rfl⟩ : ∃ gu, fuel' = gu + 1 := ⟨fuel' - 1, by omega⟩
    have e1 : oa_fix (o61 n) (fu + 1) (T, V, nI (1 + i)) = b_X4_takeOne_61 (nI n) (fun T V x3 => oa_fix (o61 n) fu (T, V, x3)) T V (nI (1 + i)) := rfl
    have e2 : ∀ Z : oa_I2, oa_fix (o68 K n) (gu + 1) (Z, nI (1 + i)) = b_X7_readOne_68 K (nI n) (fun M x3 => oa_fix (o68 K n) gu (M, x3)) Z (nI (1 + i)) := fun Z => rfl
    obtain ⟨X, Z, n1, n2, n3⟩ := numM (K := K) (V := V) (lo := 0) (lo' := 0) (hi := 20) (hi' := 20) rfl rfl (by omega) (by omega) hT hm
    rcases n3 with ⟨q1, v, v1, v2, v3, v4, b, vb, vt, v5⟩ | ⟨q1, q2, q3⟩
    · have d4 : Z 4 = Y 4 := n2.1 4 (by omega)
      have hX2 : TDX n (1 + (i + 1)) (va_up V 1 (upd (V 1) ((1 + i) * 6 + n) (nI v))) (va_up Z 4 (upd (Z 4) (8 * n + (1 + i)) (nI v)) 4) := by
        rw [va_up_s, d4]
        exact TDX_trait (m := 1 + i) (x := nI v) hX hn (by omega) ⟨fun c => by omega, fun _ _ => ⟨v, v2, rfl⟩, fun c => by omega, fun c => by omega⟩
      have hG : FG Y (va_up Z 4 (upd (Z 4) (8 * n + (1 + i)) (nI v))) := FG_trans (FG_of n2) (FG_r (Or.inr rfl))
      have hm2 : MID t f b X (va_up Z 4 (upd (Z 4) (8 * n + (1 + i)) (nI v))) := by
        obtain ⟨X2, z1, z2⟩ := v5
        rcases z2 with ⟨p1, s, e, k, p2, p3⟩ | ⟨p1, p2⟩
        · exact ⟨X2, z1, Or.inl ⟨p1, s, e, k, OK_r p2 (by omega), p3⟩⟩
        · exact ⟨X2, z1, Or.inr ⟨p1, BR_r p2 (by omega)⟩⟩
      have key := ih (i + 1) fu gu X (va_up V 1 (upd (V 1) ((1 + i) * 6 + n) (nI v))) (va_up Z 4 (upd (Z 4) (8 * n + (1 + i)) (nI v))) b (by omega) (by omega) (by omega) (TP_G hT (FC_of n1) hG) hm2 (RC_G hc hG) hX2 (by rw [va_up_n _ _ (by omega)]; exact hV) (by rw [va_up_s, upd_n _ _ (by omega), d4]; exact h99)
      rw [e1, e2, c61_s (by omega) hn, b68_s (by omega) hn, q1, v4]
      simp only [oa_bs, oa_ut]
      rw [if_neg (show ¬ (1 : Int32) = 0 by decide), v3]
      refine OE_up n1 hG ((va_up_n _ _ (by omega)).trans (n2.1 3 (by omega))) ?_ (va_up_n _ _ (by omega)) (by omega) key
      rw [va_up_n _ _ (by omega)]; exact n2.2 8 (by omega)
    · have e4 : oa_fix (o68 K n) (gu + 1) (Y, nI (1 + i)) = oa_fix (o68 K n) (gu + 1) (Z, nI (1 + i)) := by rw [e2, e2, b68_s (by omega) hn, b68_s (by omega) hn, q2, br_number q3]
      rw [e4, e1, c61_s (by omega) hn, q1]
      exact brk hn (by omega) (by omega) n1 n2 hT hc h99 q3
end OQ
