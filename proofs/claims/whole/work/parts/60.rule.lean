/-! a line that tells a rule -/
def FC (T T' : oa_I2) : Prop := (∀ a, a ≠ 1 → T' a = T a) ∧ T' 1 0 = T 1 0
def FG (M M' : oa_I2) : Prop := (∀ a, a ≠ 0 → a ≠ 3 → a ≠ 4 → M' a = M a) ∧ ∀ j, (j < 2 ∨ 8 < j) → M' 0 j = M 0 j
def R8 (x y : Int32) : Prop := ∃ k : Nat, k < 8 ∧ x = nI k ∧ y = nI (2 * k)
theorem R8_bit : ∀ k, k < 8 → ∀ w, w < 3 → (((nI k >>> (nI w &&& 31)) &&& 1 = 0 ∧ ¬ (nI (2 * k) >>> (nI (w + 1) &&& 31)) &&& 1 = 1) ∨ (¬ (nI k >>> (nI w &&& 31)) &&& 1 = 0 ∧ (nI (2 * k) >>> (nI (w + 1) &&& 31)) &&& 1 = 1)) := by decide +kernel
theorem R8_set : ∀ k, k < 8 → ∀ w, w < 3 → ∃ k', k' < 8 ∧ nI k ||| ((1 : Int32) <<< (nI w &&& 31)) = nI k' ∧ nI (2 * k) ||| ((1 : Int32) <<< (nI (w + 1) &&& 31)) = nI (2 * k') := by decide +kernel
def rlo (w : Nat) : Nat := [1, 1, 0].getD w 0
def rhi (w : Nat) : Nat := [2, 9, 10].getD w 0
theorem r_lo : ∀ w, w < 3 → oa_rd (oa_tbv 3) (oa_tln 3) (nI w) = some (nI (rlo w)) := by decide +kernel
theorem r_hi : ∀ w, w < 3 → oa_rd (oa_tbv 4) (oa_tln 4) (nI w) = some (nI (rhi w)) := by decide +kernel
section RU
variable {T M V : oa_I2} {K : oa_J2} {t : Nat} {f : Nat → Nat}
theorem FC_refl (T : oa_I2) : FC T T := ⟨fun _ _ => rfl, rfl⟩
theorem FC_trans {X Y Z : oa_I2} (h : FC X Y) (g : FC Y Z) : FC X Z := ⟨fun a ha => (g.1 a ha).trans (h.1 a ha), g.2.trans h.2⟩
theorem FC_of {X Y : oa_I2} (h : FS X Y) : FC X Y := ⟨h.1, h.2.1⟩
theorem FC_up {k : Nat} {x : Int32} (hk : k ≠ 0) : FC T (va_up T 1 (upd (T 1) k x)) := ⟨fun a ha => by rw [va_up_n _ _ ha], rd1n _ _ (by omega)⟩
theorem FG_refl (M : oa_I2) : FG M M := ⟨fun _ _ _ _ => rfl, fun _ _ => rfl⟩
theorem FG_trans {X Y Z : oa_I2} (h : FG X Y) (g : FG Y Z) : FG X Z := ⟨fun a a0 a3 a4 => (g.1 a a0 a3 a4).trans (h.1 a a0 a3 a4), fun j hj => (g.2 j hj).trans (h.2 j hj)⟩
theorem FG_of {X Y : oa_I2} (h : FM X Y) : FG X Y := ⟨fun a a0 _ _ => h.1 a a0, fun j hj => h.2 j (by omega)⟩
theorem FG_r {a : Nat} {g : Nat → Int32} (ha : a = 3 ∨ a = 4) : FG M (va_up M a g) := ⟨fun b b0 b3 b4 => by rw [va_up_n _ _ (by omega)], fun j hj => by rw [va_up_n _ _ (by omega)]⟩
theorem FG_8 {x : Int32} : FG M (va_up M 0 (upd (M 0) 8 x)) := ⟨fun b b0 b3 b4 => by rw [va_up_n _ _ b0], fun j hj => by rw [rd0n _ _ (by omega)]⟩
theorem TP_G {T' M' : oa_I2} (h : TP t f T M) (ht : FC T T') (hm : FG M M') : TP t f T' M' := by
  obtain ⟨h1, h2, h3, h4⟩ := h
  exact ⟨h1, ht.2.trans h2, (hm.2 0 (by omega)).trans h3, fun k hk => by rw [ht.1 0 (by omega), hm.1 5 (by omega) (by omega) (by omega)]; exact h4 k hk⟩
theorem RC_G {M' : oa_I2} (h : RC M) (hm : FG M M') : RC M' := by
  unfold RC
  rw [hm.1 6 (by omega) (by omega) (by omega), hm.1 7 (by omega) (by omega) (by omega)]
  exact h
theorem OK_r {s e k a : Nat} {g : Nat → Int32} (h : OKt t f T M s e k) (ha : a ≠ 0) : OKt t f T (va_up M a g) s e k := by
  unfold OKt
  rw [va_up_n _ _ (fun c => ha c.symm)]
  exact h
theorem BR_r {a : Nat} {g : Nat → Int32} (h : BRt t T M) (ha : a ≠ 0) : BRt t T (va_up M a g) := by
  unfold BRt HM
  rw [va_up_n _ _ (fun c => ha c.symm)]
  exact h
theorem OK_8 {s e k : Nat} {x y : Int32} {j : Nat} (h : OKt t f T M s e k) (hj : j = 8 ∨ j = 3) : OKt t f (va_up T 1 (upd (T 1) j x)) (va_up M 0 (upd (M 0) 8 y)) s e k := by
  unfold OKt
  rw [rd1n _ _ (by omega), rd1n _ _ (by omega), rd1n _ _ (by omega), rd1n _ _ (by omega), rd0n _ _ (by omega), rd0n _ _ (by omega), rd0n _ _ (by omega), rd0n _ _ (by omega), rd0n _ _ (by omega)]
  exact h
theorem OK_t {s e k : Nat} {x : Int32} {j : Nat} (h : OKt t f T M s e k) (hj : j = 8 ∨ j = 3) : OKt t f (va_up T 1 (upd (T 1) j x)) M s e k := by
  unfold OKt
  rw [rd1n _ _ (by omega), rd1n _ _ (by omega), rd1n _ _ (by omega), rd1n _ _ (by omega)]
  exact h
theorem BR_8 {y : Int32} (h : BRt t T M) : BRt t T (va_up M 0 (upd (M 0) 8 y)) := by
  unfold BRt HM
  rw [rd0n _ _ (by omega), rd0n _ _ (by omega), rd0n _ _ (by omega), rd0n _ _ (by omega), rd0n _ _ (by omega)]
  exact h
theorem br_111 (h : BRt t T M) : b_X7_readLine_111 K M = some M := by
  unfold b_X7_readLine_111 b_X7_readLine_131
  rw [if_neg (br_ne h), br_step h]
  rfl
theorem o_e {s e k : Nat} (h : OKt t f T M s e k) : s ≤ e := h.2.2.2.2.2.2.2.2.2.1
/-- the end of a line -/
theorem closing {s e k : Nat} (h : TP t f T M) (ho : OKt t f T M s e k) : ∃ T' M', FC T T' ∧ FM M M' ∧ b_X7_readLine_111 K M = some M' ∧ ((f_X4_takeClosing T V = some (1, T') ∧ T' 1 3 = T 1 3 + 1 ∧ T' 1 8 = T 1 8 ∧ ∃ s' e' k', OKt t f T' M' s' e' k' ∧ e ≤ s') ∨ (f_X4_takeClosing T V = some (0, T') ∧ BRt t T' M')) := by
  have ho' := ho
  obtain ⟨o1, o2, o3, o4, o5, o6, o7, o8, o9, o10, o11, o12, o13, o14⟩ := ho
  by_cases k3 : k = 3
  · have hT2 : TP t f (va_up T 1 (upd (T 1) 3 (T 1 3 + 1))) M := TP_up h (by omega)
    have hok : OKt t f (va_up T 1 (upd (T 1) 3 (T 1 3 + 1))) M s e k := OK_t ho' (Or.inr rfl)
    obtain ⟨Y, y1, y2, T', z1, z2⟩ := tokM (K := K) hT2 hok
    have hmd : b_X7_readLine_111 K M = some Y := by
      unfold b_X7_readLine_111 b_X7_readLine_131
      rw [if_pos o9, o6, k3, if_pos (show nI 3 = 3 from rfl), y1]
      rfl
    have hcl : f_X4_takeClosing T V = ((f_X4_advance (va_up T 1 (upd (T 1) 3 (T 1 3 + 1))) V).bind <| oa_u fun (y4 : Int32) (T5 : oa_I2) => (oa_zc y4).bind fun (z8 : Int32) => some (z8, T5)) := by
      unfold f_X4_takeClosing
      rw [o5, k3, if_pos (show nI 3 = 3 from rfl)]
      rfl
    have hS := FS_of z1
    refine ⟨T', Y, FC_trans (FC_up (by omega)) (FC_of hS), y2, hmd, ?_⟩
    rcases z2 with ⟨q1, q2⟩ | ⟨q1, q2⟩
    · refine Or.inl ⟨?_, ?_, ?_, q2⟩
      · rw [hcl, q1 V]; rfl
      · rw [hS.2.2.1, rd1]
      · rw [hS.2.2.2, rd1n _ _ (by omega)]
    · refine Or.inr ⟨?_, q2⟩
      rw [hcl, q1 V]; rfl
  · obtain ⟨T', M', r1, r2, r3, r4, r5⟩ := both_mis (K := K) (V := V) ho'
    have n3 : ¬ nI k = 3 := nI_neq (b := 3) k3 (by omega) (by omega)
    refine ⟨T', M', FC_of (FS_of r3), r4, ?_, Or.inr ⟨?_, r5⟩⟩
    · unfold b_X7_readLine_111 b_X7_readLine_131
      rw [if_pos o9, o6, if_neg n3, r2]
      simp only [oa_bs]
      rw [br_step r5]
      rfl
    · unfold f_X4_takeClosing
      rw [o5, if_neg n3, r1]
      rfl
theorem rl_51 : ∀ w, w < 3 → b_X7_readLine_51 K M (nI (w + 1)) = (f_X7_step (va_up M 0 (upd (M 0) 8 ((M 0 8) ||| ((1 : Int32) <<< (nI (w + 1) &&& 31))))) K).bind fun M21 => (f_X7_number M21 K (nI (rlo w)) (nI (rhi w))).bind <| oa_u fun (y : Int32) (X : oa_I2) => b_X7_readLine_110 K X (nI w) y
  | 0, _ => rfl
  | 1, _ => rfl
  | 2, _ => rfl
  | n + 3, h => absurd h (by omega)
theorem rl_110 {w : Nat} {y : Int32} (hw : w < 3) : b_X7_readLine_110 K M (nI w) y = b_X7_readLine_111 K (va_up M 3 (upd (M 3) w y)) := by
  unfold b_X7_readLine_110
  rw [oa_wr_nI (by omega) (by omega)]
  rfl
theorem rule {w s e k : Nat} (hw : w < 3) (h : TP t f T M) (ho : OKt t f T M s e k) (hR : TDR V (M 3)) (h8 : R8 (T 1 8) (M 0 8)) : ∃ T' V' M', FC T T' ∧ FG M M' ∧ M' 4 = M 4 ∧ (if (((M 0 8) >>> (nI (w + 1) &&& 31)) &&& 1) = 1 then ((f_X7_fails M K 4).bind fun (M10 : oa_I2) => b_X7_readLine_51 K M10 (nI (w + 1))) else b_X7_readLine_51 K M (nI (w + 1))) = some M' ∧ ((f_X4_takeRule T V (nI w) = some (1, T', V') ∧ T' 1 3 = T 1 3 + 1 ∧ R8 (T' 1 8) (M' 0 8) ∧ TDR V' (M' 3) ∧ (∃ g, V' = va_up V 0 g) ∧ ∃ s' e' k', OKt t f T' M' s' e' k' ∧ e ≤ s') ∨ (f_X4_takeRule T V (nI w) = some (0, T', V') ∧ BRt t T' M')) := by
  obtain ⟨j, j8, e1, e2⟩ := h8
  rcases R8_bit j j8 w hw with ⟨b1, b2⟩ | ⟨b1, b2⟩
  · obtain ⟨j', j8', e3, e4⟩ := R8_set j j8 w hw
    have hok := OK_8 (x := nI j') (y := nI (2 * j')) (j := 8) ho (Or.inl rfl)
    have hTP : TP t f (va_up T 1 (upd (T 1) 8 (nI j'))) (va_up M 0 (upd (M 0) 8 (nI (2 * j')))) := TP_um (TP_up h (by omega)) (by omega)
    obtain ⟨Y, y1, y2, y3⟩ := tokM (K := K) hTP hok
    have hcl : f_X4_takeRule T V (nI w) = ((f_X4_takeNumber (va_up T 1 (upd (T 1) 8 (nI j'))) V (nI (rlo w)) (nI (rhi w))).bind <| oa_u fun (y8 : Int32) (T9 : oa_I2) => if y8 = 0 then some (0, T9, V) else ((oa_wr (V 0) 3 (nI w) (T9 1 7)).bind fun (g13 : Nat → Int32) => oa_let (va_up V 0 g13) fun (V15 : oa_I2) => (f_X4_advance T9 V15).bind <| oa_u fun (y17 : Int32) (T18 : oa_I2) => if y17 = 0 then some (0, T18, V15) else ((f_X4_takeClosing T18 V15).bind <| oa_u fun (y22 : Int32) (T23 : oa_I2) => if y22 = 0 then some (0, T23, V15) else some (1, T23, V15)))) := by
      unfold f_X4_takeRule
      rw [e1, if_pos b1, e3, r_lo w hw, r_hi w hw]
      rfl
    have f1 : FC T (va_up T 1 (upd (T 1) 8 (nI j'))) := FC_up (by omega)
    have f2 : FG M (va_up M 0 (upd (M 0) 8 (nI (2 * j')))) := FG_8
    have c8 : va_up T 1 (upd (T 1) 8 (nI j')) 1 8 = nI j' := rd1 _ _ _
    have c3 : va_up T 1 (upd (T 1) 8 (nI j')) 1 3 = T 1 3 := rd1n _ _ (by omega)
    have d8 : Y 0 8 = nI (2 * j') := (y2.2 8 (by omega)).trans (rd0 _ _ _)
    have d3 : Y 3 = M 3 := (y2.1 3 (by omega)).trans (va_up_n _ _ (by omega))
    have d4 : Y 4 = M 4 := (y2.1 4 (by omega)).trans (va_up_n _ _ (by omega))
    have hTY := TP_G hTP (FC_refl _) (FG_of y2)
    have hfY := FG_trans f2 (FG_of y2)
    rw [e2, if_neg b2, rl_51 w hw, e2, e4, y1, hcl]
    generalize va_up T 1 (upd (T 1) 8 (nI j')) = T0 at *
    simp only [oa_bs]
    have hrh : ∀ w, w < 3 → rhi w < 2 ^ 31 ∧ rlo w < 2 ^ 31 := by decide
    obtain ⟨T1, Y1, n1, n2, n3⟩ := numM (K := K) (V := V) rfl rfl (hrh w hw).1 (hrh w hw).2 hTY y3
    have g4 : Y1 4 = M 4 := (n2.1 4 (by omega)).trans d4
    have g3 : Y1 3 = M 3 := (n2.1 3 (by omega)).trans d3
    rcases n3 with ⟨q1, v, v1, v2, v3, v4, b, vb, vt, T2, z1, z2⟩ | ⟨q1, q2, q3⟩
    · have hV : TDR (va_up V 0 (upd (V 0) w (nI v))) (upd (Y1 3) w (nI v)) := by
        rw [g3]
        refine TDR_up hw hR (fun c => ?_) (fun c => ?_)
        · subst c
          have v1 : 1 ≤ v := v1
          have v2 : v ≤ 2 := v2
          by_cases c1 : v = 1
          · exact Or.inl (by rw [c1]; rfl)
          · exact Or.inr (by rw [show v = 2 by omega]; rfl)
        · subst c
          exact ⟨v, v1, v2, rfl⟩
      have hF : FC T T2 := FC_trans (FC_trans f1 (FC_of n1)) (FC_of (FS_of z1))
      have hG : FG M (va_up Y1 3 (upd (Y1 3) w (nI v))) := FG_trans (FG_trans hfY (FG_of n2)) (FG_r (Or.inl rfl))
      rw [q1, v4]
      simp only [oa_bs, oa_ut]
      rw [if_neg (show ¬ (1 : Int32) = 0 by decide), v3, oa_wr_nI (by omega) (by omega), rl_110 hw]
      simp only [oa_bs, oa_lt]
      rcases z2 with ⟨p1, s', e', k', p2, p3⟩ | ⟨p1, p2⟩
      · have hTP2 := TP_G h hF hG
        obtain ⟨T3, Y3, x1, x2, x3, x4⟩ := closing (K := K) (V := va_up V 0 (upd (V 0) w (nI v))) hTP2 (OK_r p2 (by omega))
        rw [p1]
        simp only [oa_bs, oa_ut]
        rw [if_neg (show ¬ (1 : Int32) = 0 by decide)]
        have hx3 : Y3 3 = upd (Y1 3) w (nI v) := (x2.1 3 (by omega)).trans (va_up_s _ _ _)
        have hx4 : Y3 4 = M 4 := (x2.1 4 (by omega)).trans ((va_up_n _ _ (by omega)).trans g4)
        have hx8 : Y3 0 8 = nI (2 * j') := (x2.2 8 (by omega)).trans ((by rw [va_up_n _ _ (by omega)] : va_up Y1 3 (upd (Y1 3) w (nI v)) 0 8 = Y1 0 8).trans ((n2.2 8 (by omega)).trans d8))
        refine ⟨T3, va_up V 0 (upd (V 0) w (nI v)), Y3, FC_trans hF x1, FG_trans hG (FG_of x2), hx4, x3, ?_⟩
        have h5 := o_e p2
        rcases x4 with ⟨u1, u2, u3, u4, u5, u6, u7, u8⟩ | ⟨u1, u2⟩
        · rw [u1]
          refine Or.inl ⟨rfl, ?_, ⟨j', j8', ?_, hx8⟩, by rw [hx3]; exact hV, ⟨_, rfl⟩, u4, u5, u6, u7, by have := o_e ho; omega⟩
          · rw [u2, (FS_of z1).2.2.1, n1.2.2.1, c3]
          · rw [u3, (FS_of z1).2.2.2, n1.2.2.2, c8]
        · rw [u1]
          exact Or.inr ⟨rfl, u2⟩
      · rw [p1, br_111 (BR_r p2 (by omega))]
        exact ⟨T2, _, _, hF, hG, (va_up_n _ _ (by omega)).trans g4, rfl, Or.inr ⟨rfl, BR_r p2 (by omega)⟩⟩
    · rw [q1, q2]
      simp only [oa_bs, oa_ut]
      rw [rl_110 hw, br_111 (BR_r q3 (by omega))]
      exact ⟨T1, V, _, FC_trans f1 (FC_of n1), FG_trans (FG_trans hfY (FG_of n2)) (FG_r (Or.inl rfl)), (va_up_n _ _ (by omega)).trans g4, rfl, Or.inr ⟨rfl, BR_r q3 (by omega)⟩⟩
  · obtain ⟨T1, M1, r1, r2, r3, r4, r5⟩ := both_fail (K := K) (V := V) (c := 4) (x := 4) ho (by omega) (by omega) rfl
    have hcl : f_X4_takeRule T V (nI w) = some (0, T1, V) := by
      unfold f_X4_takeRule
      rw [e1, if_neg b1, r1]
      rfl
    rw [e2, if_pos b2, r2, hcl]
    simp only [oa_bs]
    have r6 := BR_8 (y := (M1 0 8) ||| ((1 : Int32) <<< (nI (w + 1) &&& 31))) r5
    rw [rl_51 w hw, br_step r6]
    simp only [oa_bs]
    rw [br_number r6]
    simp only [oa_bs, oa_ut]
    rw [rl_110 hw, br_111 (BR_r r6 (by omega))]
    exact ⟨T1, V, _, FC_of (FS_of r3), FG_trans (FG_trans (FG_of r4) FG_8) (FG_r (Or.inl rfl)), (va_up_n _ _ (by omega)).trans ((va_up_n _ _ (by omega)).trans (r4.1 4 (by omega))), rfl, Or.inr ⟨rfl, BR_r r6 (by omega)⟩⟩
end RU
