/-! a line that tells one: the traits -/
noncomputable def o68 (K : oa_J2) (n : Nat) : (oa_I2 × Int32 → Option oa_I2) → oa_I2 × Int32 → Option oa_I2 := fun k => oa_u fun (M : oa_I2) (x3 : Int32) => b_X7_readOne_68 K (nI n) (fun M x3 => k (M, x3)) M x3
noncomputable def o61 (n : Nat) : (oa_I2 × oa_I2 × Int32 → Option (Int32 × oa_I2 × oa_I2)) → oa_I2 × oa_I2 × Int32 → Option (Int32 × oa_I2 × oa_I2) := fun k => oa_u fun (T : oa_I2) => oa_u fun (V : oa_I2) (x3 : Int32) => b_X4_takeOne_61 (nI n) (fun T V x3 => k (T, V, x3)) T V x3
section OP
variable {K : oa_J2} {t : Nat} {f : Nat → Nat} {n : Nat}
theorem b68_s {Y : oa_I2} {i : Nat} {kk : oa_I2 → Int32 → Option oa_I2} (hi : i < 4) (hn : n < 6) : b_X7_readOne_68 K (nI n) kk Y (nI (1 + i)) = ((f_X7_number Y K 0 20).bind <| oa_u fun (y : Int32) (X : oa_I2) => kk (va_up X 4 (upd (X 4) (8 * n + (1 + i)) y)) (nI (1 + (i + 1)))) := by
  unfold b_X7_readOne_68
  rw [if_neg (show ¬ (4 : Int32) < nI (1 + i) from nI_nlt (a := 4) (by omega) (by omega))]
  congr 1
  funext ⟨y, X⟩
  simp only [oa_ut]
  rw [i_8p, oa_wr_nI (by omega) (by omega)]
  simp only [oa_bs, oa_lt]
  rw [nI_1, Nat.add_assoc]
theorem b68_e {Y : oa_I2} {kk : oa_I2 → Int32 → Option oa_I2} (hn : n < 6) : b_X7_readOne_68 K (nI n) kk Y (nI 5) = ((f_X7_number Y K 1 4).bind <| oa_u fun (y : Int32) (X : oa_I2) => (f_X7_nameHere (va_up (va_up X 4 (upd (X 4) (8 * n + 5) y)) 4 (upd (va_up X 4 (upd (X 4) (8 * n + 5) y) 4) (8 * n + 7) oNO)) K).bind fun y40 => l_X7_readOne_136 K (nI n) oa_fu (va_up (va_up X 4 (upd (X 4) (8 * n + 5) y)) 4 (upd (va_up X 4 (upd (X 4) (8 * n + 5) y) 4) (8 * n + 7) oNO)) 0 y40) := by
  unfold b_X7_readOne_68
  rw [if_pos (show (4 : Int32) < nI 5 by decide)]
  congr 1
  funext ⟨y, X⟩
  simp only [oa_ut]
  rw [show (8 : Int32) * nI n + 5 = nI (8 * n + 5) from i_8p n 5, show (8 : Int32) * nI n + 7 = nI (8 * n + 7) from i_8p n 7, oa_wr_nI (by omega) (by omega)]
  simp only [oa_bs, oa_lt]
  rw [oa_wr_nI (by omega) (by omega)]
  rfl
theorem br_68 {T : oa_I2} (hn : n < 6) : ∀ (j i fuel : Nat) (Y : oa_I2), i + j = 4 → j < fuel → BRt t T Y → TP t f T Y → RC Y → ∃ g, oa_fix (o68 K n) fuel (Y, nI (1 + i)) = some (va_up Y 4 g) ∧ g 99 = Y 4 99 + 1 := by
  intro j
  induction j with
  | zero =>
    intro i fuel Y hi hf hb hT hc
    obtain ⟨fu, rfl⟩ : ∃ fu, fuel = fu + 1 := ⟨fuel - 1, by omega⟩
    have : i = 4 := by omega
    subst this
    have b2 := BR_r (a := 4) (g := upd (va_up Y 4 (upd (Y 4) (8 * n + 5) 1) 4) (8 * n + 7) oNO) (BR_r (a := 4) (g := upd (Y 4) (8 * n + 5) 1) hb (by omega)) (by omega)
    have hG : FG Y (va_up (va_up Y 4 (upd (Y 4) (8 * n + 5) 1)) 4 (upd (va_up Y 4 (upd (Y 4) (8 * n + 5) 1) 4) (8 * n + 7) oNO)) := FG_trans (FG_r (Or.inr rfl)) (FG_r (Or.inr rfl))
    have h99 : va_up (va_up Y 4 (upd (Y 4) (8 * n + 5) 1)) 4 (upd (va_up Y 4 (upd (Y 4) (8 * n + 5) 1) 4) (8 * n + 7) oNO) 4 99 = Y 4 99 := by rw [va_up_s, upd_n _ _ (by omega), va_up_s, upd_n _ _ (by omega)]
    obtain ⟨_, s2, e2, k2, hHM⟩ := id b2
    obtain ⟨x, x1, x2⟩ := md_nameHere (K := K) (TP_G hT (FC_refl _) hG) hHM (RC_G hc hG)
    have e : oa_fix (o68 K n) (fu + 1) (Y, nI (1 + 4)) = b_X7_readOne_68 K (nI n) (fun M x3 => oa_fix (o68 K n) fu (M, x3)) Y (nI 5) := rfl
    rw [e, b68_e hn, br_number hb]
    simp only [oa_bs, oa_ut]
    rw [x1]
    simp only [oa_bs]
    have h136 : ∀ M : oa_I2, ¬ M 0 2 = 0 → l_X7_readOne_136 K (nI n) oa_fu M 0 x = some (va_up M 4 (upd (M 4) 99 (M 4 99 + 1))) := by
      intro M hM
      unfold l_X7_readOne_136
      exact oa_for (fun _ => (M, (0 : Int32), x)) 0 rfl (fun i hi => absurd hi (Nat.not_lt_zero i)) (fun kk => r136_br hM) oa_fu (by rw [oa_fu_eq]; omega)
    rw [h136 _ (br_ne b2), oa_up2, oa_up2, h99]
    exact ⟨_, rfl, upd_s _ _ _⟩
  | succ j ih =>
    intro i fuel Y hi hf hb hT hc
    obtain ⟨fu, rfl⟩ : ∃ fu, fuel = fu + 1 := ⟨fuel - 1, by omega⟩
    have e : oa_fix (o68 K n) (fu + 1) (Y, nI (1 + i)) = b_X7_readOne_68 K (nI n) (fun M x3 => oa_fix (o68 K n) fu (M, x3)) Y (nI (1 + i)) := rfl
    rw [e, b68_s (by omega) hn, br_number hb]
    simp only [oa_bs, oa_ut]
    have hG : FG Y (va_up Y 4 (upd (Y 4) (8 * n + (1 + i)) 0)) := FG_r (Or.inr rfl)
    obtain ⟨g, g1, g2⟩ := ih (i + 1) fu (va_up Y 4 (upd (Y 4) (8 * n + (1 + i)) 0)) (by omega) (by omega) (BR_r hb (by omega)) (TP_G hT (FC_refl _) hG) (RC_G hc hG)
    rw [g1, oa_up2]
    exact ⟨g, rfl, by rw [g2, va_up_s, upd_n _ _ (by omega)]⟩
theorem OE_up {a a' : Nat} {T T' Y Y' V V' : oa_I2} {o1 : Option (Int32 × oa_I2 × oa_I2)} {o2 : Option oa_I2} (h1 : FS T T') (h2 : FG Y Y') (h3 : Y' 3 = Y 3) (h4 : Y' 0 8 = Y 0 8) (h5 : V' 0 = V 0) (ha : a ≤ a') (h : OE t f n a' T' Y' V' o1 o2) : OE t f n a T Y V o1 o2 := by
  obtain ⟨X, W, Z, p1, p2, p3, p4⟩ := h
  refine ⟨X, W, Z, FC_trans (FC_of h1) p1, FG_trans h2 p2, p3, ?_⟩
  rcases p4 with ⟨q1, q2, q3, q4, q5, q6, q7, q8, q9, s, e, k, q10, q11⟩ | q
  · exact Or.inl ⟨q1, by rw [q2, h1.2.2.1], by rw [q3, h1.2.2.2], q4.trans h3, q5.trans h4, q6.trans h5, q7, q8, q9, s, e, k, q10, by omega⟩
  · exact Or.inr q
end OP
