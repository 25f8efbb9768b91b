/-! withs, in a row -/
theorem oa_for11 {α β γ δ : Type} {F : (α → Option β) → α → Option β} {H : (γ → Option δ) → γ → Option δ} (Q : Option β → Option δ → Prop) (Rl : Nat → α → γ → Prop) (N : Nat) {s0 : α} {t0 : γ} (h0 : Rl 0 s0 t0) (hs : ∀ i, i < N → ∀ s t, Rl i s t → (∃ s' t', Rl (i + 1) s' t' ∧ (∀ k, F k s = k s') ∧ (∀ l, H l t = l t')) ∨ (∀ f g, Q (oa_fix F (f + 1) s) (oa_fix H (g + 2) t))) (he : ∀ s t, Rl N s t → ∀ f g, Q (oa_fix F (f + 1) s) (oa_fix H (g + 2) t)) : ∀ fuel fuel', N < fuel → N + 1 < fuel' → Q (oa_fix F fuel s0) (oa_fix H fuel' t0) := by
  have key : ∀ j i fuel fuel' s t, i + j = N → j < fuel → j + 1 < fuel' → Rl i s t → Q (oa_fix F fuel s) (oa_fix H fuel' t) := by
    intro j
    induction j with
    | zero =>
      intro i fuel fuel' s t h1 h2 h2' h3
      obtain ⟨f, rfl⟩ : ∃ f, fuel = f + 1 := ⟨fuel - 1, by omega⟩
      obtain ⟨f', rfl⟩ : ∃ f, fuel' = f + 2 := ⟨fuel' - 2, by omega⟩
      have : i = N := by omega
      subst this
      exact he s t h3 _ _
    | succ j ih =>
      intro i fuel fuel' s t h1 h2 h2' h3
      obtain ⟨f, rfl⟩ : ∃ f, fuel = f + 1 := ⟨fuel - 1, by omega⟩
      obtain ⟨f', rfl⟩ : ∃ f, fuel' = f + 2 := ⟨fuel' - 2, by omega⟩
      rcases hs i (by omega) s t h3 with ⟨s', t', r, e1, e2⟩ | q
      · have a1 : oa_fix F (f + 1) s = oa_fix F f s' := e1 _
        have a2 : oa_fix H (f' + 2) t = oa_fix H (f' + 1) t' := e2 _
        rw [a1, a2]
        exact ih (i + 1) f (f' + 1) s' t' (by omega) (by omega) (by omega) r
      · exact q f f'
  intro fuel fuel' h1 h2
  exact key N 0 fuel fuel' s0 t0 (by omega) h1 (by omega) h0
theorem R4_bit : ∀ k, k < 16 → ∀ w, w < 4 → (((nI k >>> (nI w &&& 31)) &&& 1 = 0 ∧ ¬ (nI (512 * k) >>> (nI (9 + w) &&& 31)) &&& 1 = 1) ∨ (¬ (nI k >>> (nI w &&& 31)) &&& 1 = 0 ∧ (nI (512 * k) >>> (nI (9 + w) &&& 31)) &&& 1 = 1)) := by decide +kernel
theorem R4_set : ∀ k, k < 16 → ∀ w, w < 4 → ∃ k', k' < 16 ∧ nI k ||| ((1 : Int32) <<< (nI w &&& 31)) = nI k' ∧ nI (512 * k) ||| ((1 : Int32) <<< (nI (9 + w) &&& 31)) = nI (512 * k') := by decide +kernel
section WK
variable {T M V : oa_I2} {K : oa_J2} {t : Nat} {f : Nat → Nat} {n p : Nat}
theorem cl_with {s e k : Nat} {x : Int32} (h : TP t f T M) (ho : OKt t f T M s e k) (hx : NH f s e k x) : (∀ w, w < 4 → x = nI (9 + w) → f_X4_withNamed T V = some (nI w)) ∧ ((∀ w, w < 4 → ¬ x = nI (9 + w)) → f_X4_withNamed T V = some (-4)) := by
  unfold f_X4_withNamed
  rw [cl_isNameN (V := V) h ho (show 9 < 13 by omega) hx, cl_isNameN (V := V) h ho (show 10 < 13 by omega) hx, cl_isNameN (V := V) h ho (show 11 < 13 by omega) hx, cl_isNameN (V := V) h ho (show 12 < 13 by omega) hx]
  constructor
  · intro w hw e
    subst e
    have : ∀ w, w < 4 → ((some (oa_bi (decide (nI (9 + w) = nI 9)))).bind fun (y1 : Int32) => if y1 = 0 then ((some (oa_bi (decide (nI (9 + w) = nI 10)))).bind fun (y5 : Int32) => if y5 = 0 then ((some (oa_bi (decide (nI (9 + w) = nI 11)))).bind fun (y9 : Int32) => if y9 = 0 then ((some (oa_bi (decide (nI (9 + w) = nI 12)))).bind fun (y13 : Int32) => if y13 = 0 then some (-4) else some 3) else some 2) else some 1) else some 0) = some (nI w) := by decide +kernel
    exact this w hw
  · intro hn
    rw [decide_eq_false (hn 0 (by omega)), decide_eq_false (hn 1 (by omega)), decide_eq_false (hn 2 (by omega)), decide_eq_false (hn 3 (by omega))]
    rfl
theorem br_with {w : Nat} (hw : w < 4) (hp : p < 6) (h : BRt t T M) : ∃ g, f_X7_readWith M K (nI p) (nI (9 + w)) = some (va_up M 4 g) ∧ g 99 = M 4 99 := by
  have e : ∀ w, w < 4 → f_X7_readWith M K (nI p) (nI (9 + w)) = some (va_up M 4 (upd (M 4) ([8 * p + 6, 8 * p + 7, 48 + (7 * p + 0), 48 + (7 * p + 6)].getD w 0) ([0, 0, 1, 1].getD w 0))) := by
    intro w hw
    match w, hw with
    | 0, _ =>
      show ((f_X7_step M K).bind fun (M1 : oa_I2) => (f_X7_number M1 K 0 20).bind <| oa_u fun (y27 : Int32) (M28 : oa_I2) => (oa_wr (M28 4) 100 ((8 * nI p) + nI 6) y27).bind fun (g31 : Nat → Int32) => oa_let (va_up M28 4 g31) fun (M33 : oa_I2) => some (M33)) = _
      rw [br_step h]
      simp only [oa_bs]
      rw [br_number h]
      simp only [oa_bs, oa_ut]
      rw [i_8p, oa_wr_nI (by omega) (by omega)]
      rfl
    | 1, _ =>
      show ((f_X7_step M K).bind fun (M1 : oa_I2) => (f_X7_number M1 K 0 5).bind <| oa_u fun (y27 : Int32) (M28 : oa_I2) => (oa_wr (M28 4) 100 ((8 * nI p) + nI 7) y27).bind fun (g31 : Nat → Int32) => oa_let (va_up M28 4 g31) fun (M33 : oa_I2) => some (M33)) = _
      rw [br_step h]
      simp only [oa_bs]
      rw [br_number h]
      simp only [oa_bs, oa_ut]
      rw [i_8p, oa_wr_nI (by omega) (by omega)]
      rfl
    | 2, _ =>
      show ((f_X7_step M K).bind fun (M1 : oa_I2) => (f_X7_number M1 K (nI 0) 5).bind <| oa_u fun (y27 : Int32) (M28 : oa_I2) => (oa_wr (M28 4) 100 ((48 + (7 * nI p)) + y27) 1).bind fun (g31 : Nat → Int32) => oa_let (va_up M28 4 g31) fun (M33 : oa_I2) => some (M33)) = _
      rw [br_step h]
      simp only [oa_bs]
      rw [br_number h]
      simp only [oa_bs, oa_ut]
      rw [i_7p, oa_wr_nI (by omega) (by omega)]
      rfl
    | 3, _ =>
      show ((f_X7_step M K).bind fun (M1 : oa_I2) => (oa_wr (M1 4) 100 ((48 + (7 * nI p)) + nI 6) 1).bind fun (g7 : Nat → Int32) => oa_let (va_up M1 4 g7) fun (M9 : oa_I2) => some (M9)) = _
      rw [br_step h]
      simp only [oa_bs]
      rw [i_7p, oa_wr_nI (by omega) (by omega)]
      rfl
  refine ⟨_, e w hw, ?_⟩
  match w, hw with
  | 0, _ => exact upd_n _ _ (show 99 ≠ 8 * p + 6 by omega)
  | 1, _ => exact upd_n _ _ (show 99 ≠ 8 * p + 7 by omega)
  | 2, _ => exact upd_n _ _ (show 99 ≠ 48 + (7 * p + 0) by omega)
  | 3, _ => exact upd_n _ _ (show 99 ≠ 48 + (7 * p + 6) by omega)
theorem r188 : b_X7_readOne_188 K M = some (va_up M 4 (upd (M 4) 99 (M 4 99 + 1))) := by
  unfold b_X7_readOne_188
  rw [show (99 : Int32) = nI 99 from rfl, oa_rd_nI (by omega) (by omega)]
  simp only [oa_bs]
  rw [oa_wr_nI (by omega) (by omega)]
  rfl
theorem r136_end {tl x4 : Int32} {kk : oa_I2 → Int32 → Int32 → Option oa_I2} (h2 : M 0 2 = 0) (hx : x4 < 9) : b_X7_readOne_136 K (nI p) kk M tl x4 = some (va_up M 4 (upd (M 4) 99 (M 4 99 + 1))) := by
  unfold b_X7_readOne_136
  rw [if_pos h2, if_pos hx, r188]
theorem r136_br {tl x4 : Int32} {kk : oa_I2 → Int32 → Int32 → Option oa_I2} (h2 : ¬ M 0 2 = 0) : b_X7_readOne_136 K (nI p) kk M tl x4 = some (va_up M 4 (upd (M 4) 99 (M 4 99 + 1))) := by
  unfold b_X7_readOne_136
  rw [if_neg h2, r188]
end WK
