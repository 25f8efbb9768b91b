/-! tokens -/
def spn (p : Nat → Bool) : Nat → Nat → Nat
  | 0, a => a
  | m + 1, a => if p a = true then spn p m (a + 1) else a
/-- where a run from a ends -/
def sp (p : Nat → Bool) (t a : Nat) : Nat := spn p (t - a) a
theorem spn_spec (p : Nat → Bool) : ∀ m a, a ≤ spn p m a ∧ spn p m a ≤ a + m ∧ (∀ j, a ≤ j → j < spn p m a → p j = true) ∧ (spn p m a < a + m → p (spn p m a) = false)
  | 0, a => ⟨Nat.le_refl a, Nat.le_refl a, fun j h1 h2 => absurd h2 (by show ¬ j < a; omega), fun h => absurd h (by show ¬ a < a + 0; omega)⟩
  | m + 1, a => by
    unfold spn
    cases h : p a
    · rw [if_neg (by decide)]
      exact ⟨Nat.le_refl a, by omega, fun j h1 h2 => by omega, fun _ => h⟩
    · rw [if_pos rfl]
      obtain ⟨i1, i2, i3, i4⟩ := spn_spec p m (a + 1)
      refine ⟨by omega, by omega, fun j h1 h2 => ?_, fun hl => i4 (by omega)⟩
      by_cases e : j = a
      · rw [e]; exact h
      · exact i3 j (by omega) h2
theorem sp_spec (p : Nat → Bool) {t a : Nat} (h : a ≤ t) : a ≤ sp p t a ∧ sp p t a ≤ t ∧ (∀ j, a ≤ j → j < sp p t a → p j = true) ∧ (sp p t a < t → p (sp p t a) = false) := by
  obtain ⟨i1, i2, i3, i4⟩ := spn_spec p (t - a) a
  unfold sp
  exact ⟨i1, by omega, i3, fun hl => i4 (by omega)⟩
def kd (c : Nat) : Nat := if 97 ≤ c ∧ c ≤ 122 then 1 else if 48 ≤ c ∧ c ≤ 57 then 2 else if c = 59 then 3 else 4
theorem kd_ok : ∀ c, c < 256 → f_X4_kindOf (nI c) = some (nI (kd c)) := by decide +kernel
theorem kd_32 : kd 32 = 4 := by decide
theorem kd_le (c : Nat) : kd c ≤ 4 := by unfold kd; repeat' split
                                         all_goals omega
theorem in_az : ∀ c, c < 256 → f_X7_in (nI c).toInt64 97 122 = some (oa_bi (decide (kd c = 1))) := by decide +kernel
theorem in_09 : ∀ c, c < 256 → f_X7_in (nI c).toInt64 48 57 = some (oa_bi (decide (kd c = 2))) := by decide +kernel
theorem in_az4 : f_X7_in (-4 : Int32).toInt64 97 122 = some (oa_bi false) := by decide +kernel
theorem in_094 : f_X7_in (-4 : Int32).toInt64 48 57 = some (oa_bi false) := by decide +kernel
/-- the value of the first j figures from s -/
def vI (f : Nat → Nat) (s : Nat) : Nat → Int32
  | 0 => 0
  | j + 1 => (vI f s j * 10 + nI (f (s + j))) - 48
/-- class and model hold the same tape -/
def TP (t : Nat) (f : Nat → Nat) (T M : oa_I2) : Prop := t ≤ 320 ∧ T 1 0 = nI t ∧ M 0 0 = nI t ∧ ∀ k, k < t → f k < 256 ∧ T 0 k = nI (f k) ∧ M 5 k = nI (f k)
section TK
variable {T M V : oa_I2} {K : oa_J2} {t : Nat} {f : Nat → Nat}
theorem md_byteAt {a : Nat} (h : TP t f T M) (ha : a ≤ t) : f_X7_byteAt M K (nI a) = some (if a < t then nI (f a) else oNO) := by
  obtain ⟨h1, h2, h3, h4⟩ := h
  unfold f_X7_byteAt
  rw [h3]
  by_cases l : a < t
  · rw [if_neg (nI_ge l (by omega)), if_pos l, oa_rd_nI (by omega) (by omega), (h4 a l).2.2]; rfl
  · rw [if_pos (nI_le (by omega) (by omega)), if_neg l]; rfl
/-- blanks -/
def bl (f : Nat → Nat) (k : Nat) : Bool := decide (f k = 32)
theorem nI_neq {a b : Nat} (h : a ≠ b) (ha : a < 2 ^ 31) (hb : b < 2 ^ 31) : ¬ nI a = nI b := fun c => h ((nI_eq ha hb).mp c)
theorem va_up_1 (X : oa_I2) (k : Nat) : va_up X 1 (upd (X 1) k (X 1 k)) = X := by rw [upd_id, va_up_id]
theorem va_up_0 (X : oa_I2) (k : Nat) : va_up X 0 (upd (X 0) k (X 0 k)) = X := by rw [upd_id, va_up_id]
theorem TP_up {x : Int32} {k : Nat} (h : TP t f T M) (hk : k ≠ 0) : TP t f (va_up T 1 (upd (T 1) k x)) M := by
  obtain ⟨h1, h2, h3, h4⟩ := h
  exact ⟨h1, by rw [va_up_s, upd_n _ _ (by omega)]; exact h2, h3, fun j hj => by rw [va_up_n _ _ (by omega)]; exact h4 j hj⟩
theorem TP_um {x : Int32} {k : Nat} (h : TP t f T M) (hk : k ≠ 0) : TP t f T (va_up M 0 (upd (M 0) k x)) := by
  obtain ⟨h1, h2, h3, h4⟩ := h
  exact ⟨h1, h2, by rw [va_up_s, upd_n _ _ (by omega)]; exact h3, fun j hj => by rw [va_up_n _ _ (by omega)]; exact h4 j hj⟩
theorem cl_blanks {a : Nat} (h : TP t f T M) (ha : a ≤ t) (h4 : T 1 4 = nI a) : f_X4_advance T V = b_X4_advance_38 V (va_up T 1 (upd (T 1) 4 (nI (sp (bl f) t a)))) := by
  obtain ⟨s1, s2, s3, s4⟩ := sp_spec (bl f) ha
  have ht := h.1
  unfold f_X4_advance l_X4_advance_0
  refine oa_for (fun i => va_up T 1 (upd (T 1) 4 (nI (a + i)))) (sp (bl f) t a - a) ?_ ?_ ?_ oa_fu (by rw [oa_fu_eq]; omega)
  · rw [Nat.add_zero, ← h4, va_up_1]
  · intro i hi k
    have hb : f (a + i) = 32 := of_decide_eq_true (s3 (a + i) (by omega) (by omega))
    have hd := (h.2.2.2 (a + i) (by omega)).2.1
    show b_X4_advance_0 V (fun T => k T) (va_up T 1 (upd (T 1) 4 (nI (a + i)))) = _
    unfold b_X4_advance_0
    rw [va_up_s, upd_s, upd_n _ _ (show (0 : Nat) ≠ 4 by omega), h.2.1, if_neg (nI_ge (by omega) (by omega)), va_up_n _ _ (show (0 : Nat) ≠ 1 by omega), oa_rd_nI (by omega) (by omega), hd, hb]
    simp only [oa_bs, oa_lt, oa_up2]
    rw [if_pos (show nI 32 = 32 from rfl), upd_upd, nI_1, Nat.add_assoc]
  · intro k
    show b_X4_advance_0 V (fun T => k T) (va_up T 1 (upd (T 1) 4 (nI (a + (sp (bl f) t a - a))))) = _
    rw [show a + (sp (bl f) t a - a) = sp (bl f) t a by omega]
    unfold b_X4_advance_0
    rw [va_up_s, upd_s, upd_n _ _ (show (0 : Nat) ≠ 4 by omega), h.2.1]
    by_cases l : sp (bl f) t a < t
    · have hb : f (sp (bl f) t a) ≠ 32 := of_decide_eq_false (s4 l)
      have hd := h.2.2.2 _ l
      rw [if_neg (nI_ge l (by omega)), va_up_n _ _ (show (0 : Nat) ≠ 1 by omega), oa_rd_nI (by omega) (by omega), hd.2.1]
      simp only [oa_bs]
      rw [if_neg (show ¬ nI (f (sp (bl f) t a)) = 32 from nI_neq (b := 32) hb (by omega) (by omega))]
    · rw [if_pos (nI_le (by omega) (by omega))]
theorem md_blanks {a : Nat} (h : TP t f T M) (ha : a ≤ t) (h4 : M 0 4 = nI a) (hb0 : M 0 2 = 0) : f_X7_step M K = b_X7_step_8 K (fun _ => none) (va_up M 0 (upd (M 0) 4 (nI (sp (bl f) t a)))) := by
  obtain ⟨s1, s2, s3, s4⟩ := sp_spec (bl f) ha
  have ht := h.1
  unfold f_X7_step
  rw [hb0, if_pos (by decide)]
  unfold l_X7_step_8
  refine oa_for (fun i => va_up M 0 (upd (M 0) 4 (nI (a + i)))) (sp (bl f) t a - a) ?_ ?_ ?_ oa_fu (by rw [oa_fu_eq]; omega)
  · rw [Nat.add_zero, ← h4, va_up_0]
  · intro i hi k
    have hb : f (a + i) = 32 := of_decide_eq_true (s3 (a + i) (by omega) (by omega))
    show b_X7_step_8 K (fun M => k M) (va_up M 0 (upd (M 0) 4 (nI (a + i)))) = _
    unfold b_X7_step_8
    rw [va_up_s, upd_s, md_byteAt (TP_um h (by omega)) (by omega), if_pos (by omega), hb]
    simp only [oa_bs, oa_lt, oa_up2]
    rw [if_pos (show nI 32 = 32 from rfl), upd_upd, nI_1, Nat.add_assoc]
  · intro k
    show b_X7_step_8 K (fun M => k M) (va_up M 0 (upd (M 0) 4 (nI (a + (sp (bl f) t a - a))))) = _
    rw [show a + (sp (bl f) t a - a) = sp (bl f) t a by omega]
    have hne : ¬ (if sp (bl f) t a < t then nI (f (sp (bl f) t a)) else oNO) = 32 := by
      by_cases l : sp (bl f) t a < t
      · have hb : f (sp (bl f) t a) ≠ 32 := of_decide_eq_false (s4 l)
        have hd := h.2.2.2 _ l
        rw [if_pos l]
        exact nI_neq (b := 32) hb (by omega) (by omega)
      · rw [if_neg l]; decide
    unfold b_X7_step_8
    rw [va_up_s, upd_s, md_byteAt (TP_um h (by omega)) (by omega)]
    simp only [oa_bs]
    rw [if_neg hne, if_neg hne]
end TK
