/-! pure facts: loops, rows, numbers -/
theorem oa_for {α β : Type} {F : (α → Option β) → α → Option β} (st : Nat → α) (N : Nat) {res : Option β} {s0 : α} (h0 : s0 = st 0) (hs : ∀ i, i < N → ∀ k, F k (st i) = k (st (i + 1))) (he : ∀ k, F k (st N) = res) : ∀ fuel, N < fuel → oa_fix F fuel s0 = res := by
  have key : ∀ j i fuel, i + j = N → j < fuel → oa_fix F fuel (st i) = res := by
    intro j
    induction j with
    | zero =>
      intro i fuel h1 h2
      obtain ⟨f, rfl⟩ : ∃ f, fuel = f + 1 := ⟨fuel - 1, by omega⟩
      have : i = N := by omega
      subst this
      exact he _
    | succ j ih =>
      intro i fuel h1 h2
      obtain ⟨f, rfl⟩ : ∃ f, fuel = f + 1 := ⟨fuel - 1, by omega⟩
      show F (oa_fix F f) (st i) = res
      rw [hs i (by omega)]
      exact ih (i + 1) f (by omega) (by omega)
  intro fuel h
  rw [h0]
  exact key N 0 fuel (by omega) h
theorem oa_lit (n : Nat) : (OfNat.ofNat n : Int32) = nI n := rfl
theorem oa_rd_nI {f : Nat → Int32} {n i : Nat} (h : i < n) (hn : n < 2 ^ 31) : oa_rd f n (nI i) = some (f i) := by
  unfold oa_rd
  rw [if_neg (nI_in h hn), nI_clamp (by omega)]
theorem oa_rdL_nI {f : Nat → Int64} {n i : Nat} (h : i < n) (hn : n < 2 ^ 31) : oa_rdL f n (nI i) = some (f i) := by
  unfold oa_rdL
  rw [if_neg (nI_in h hn), nI_clamp (by omega)]
theorem oa_bs {α β : Type} (x : α) (f : α → Option β) : (some x).bind f = f x := rfl
theorem oa_lt {α β : Type} (x : α) (f : α → β) : oa_let x f = f x := rfl
theorem oa_ut {α β γ : Type} (f : α → β → γ) (x : α) (y : β) : oa_u f (x, y) = f x y := rfl
theorem oa_up2 {α : Type} (f : Nat → α) (k : Nat) (x y : α) : va_up (va_up f k x) k y = va_up f k y := by
  funext j
  unfold va_up
  split <;> rfl
/-! a village cleared -/
def oa_clr (V : oa_I2) : oa_I2 := fun a =>
  if a = 0 then va_cpy (oa_tbv 2) (V 0) 0 0 3 else if a = 1 then (fun k => if 42 ≤ k ∧ k < 48 then -4 else oa_fill 48 0 (V 1) k) else if a = 2 then oa_fill 6 0 (V 2) else if a = 3 then oa_fill 36 0 (V 3) else if a = 4 then oa_fill 6 0 (V 4) else if a = 5 then (fun k => if k < 4 then 0 else V 5 k) else V a
theorem oa_fill_at {α : Type} (n : Nat) (v : α) (f : Nat → α) (k : Nat) : oa_fill n v f k = if k < n then v else f k := rfl
theorem f_X5_clear_eq (V : oa_I2) : f_X5_clear V = some (oa_clr V) := by
  unfold f_X5_clear l_X5_clear_23
  simp only [oa_lt]
  refine oa_for (fun i => (va_up (va_up V 0 (va_cpy (oa_tbv 2) (V 0) 0 0 3)) 1 (fun k => if 42 ≤ k ∧ k < 42 + i then -4 else oa_fill 48 0 (V 1) k), nI i)) 6 ?_ ?_ ?_ _ (by rw [oa_fu_eq]; omega)
  · refine Prod.ext ?_ rfl
    show va_up _ 1 _ = va_up _ 1 _
    congr 1
    funext k
    rw [if_neg (by omega)]
    rfl
  · intro i hi k
    simp only [oa_ut]
    unfold b_X5_clear_23 f_X5_putTrait
    rw [if_neg (by rw [oa_lit 6]; exact nI_ge (by omega) (by omega))]
    rw [oa_lit 7, oa_lit 6, pk_mul, nI_add, oa_wr_nI (by omega) (by omega)]
    simp only [oa_bs, oa_lt]
    rw [oa_up2, nI_1]
    refine congrArg k (Prod.ext ?_ rfl)
    show va_up _ 1 _ = va_up _ 1 _
    refine congrArg _ ?_
    funext q
    show (if q = 7 * 6 + i then (-4 : Int32) else if 42 ≤ q ∧ q < 42 + i then -4 else oa_fill 48 0 (V 1) q) = if 42 ≤ q ∧ q < 42 + (i + 1) then -4 else oa_fill 48 0 (V 1) q
    by_cases h : q = 7 * 6 + i
    · rw [if_pos h, if_pos (by omega)]
    · rw [if_neg h]
      by_cases h2 : 42 ≤ q ∧ q < 42 + i
      · rw [if_pos h2, if_pos (by omega)]
      · rw [if_neg h2, if_neg (by omega)]
  · intro k
    simp only [oa_ut]
    unfold b_X5_clear_23
    rw [if_pos (by rw [oa_lit 6]; exact nI_le (by omega) (by omega))]
    simp only [oa_lt]
    refine congrArg some ?_
    funext a
    unfold oa_clr
    by_cases h0 : a = 0
    · subst h0; rfl
    by_cases h1 : a = 1
    · subst h1; rfl
    by_cases h2 : a = 2
    · subst h2; rfl
    by_cases h3 : a = 3
    · subst h3; rfl
    by_cases h4 : a = 4
    · subst h4; rfl
    by_cases h5 : a = 5
    · subst h5
      funext q
      show upd (upd (upd (upd (V 5) 0 0) 1 0) 2 0) 3 0 q = if q < 4 then 0 else V 5 q
      simp only [upd]
      repeat' split
      all_goals first | rfl | omega
    · simp only [va_up, h0, h1, h2, h3, h4, h5, if_false]
