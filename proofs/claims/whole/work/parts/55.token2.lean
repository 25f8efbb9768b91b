/-- what a token leaves alone -/
def FT (T T' : oa_I2) : Prop := (∀ a, a ≠ 1 → T' a = T a) ∧ ∀ j, j ≠ 1 → j ≠ 2 → j ≠ 4 → j ≠ 5 → j ≠ 6 → T' 1 j = T 1 j
def FM (M M' : oa_I2) : Prop := (∀ a, a ≠ 0 → M' a = M a) ∧ ∀ j, (j < 2 ∨ 7 < j) → M' 0 j = M 0 j
/-- a token from s to e of kind k stands in both -/
def OKt (t : Nat) (f : Nat → Nat) (T M : oa_I2) (s e k : Nat) : Prop := T 1 4 = nI e ∧ M 0 4 = nI e ∧ T 1 6 = nI s ∧ M 0 5 = nI s ∧ T 1 5 = nI k ∧ M 0 6 = nI k ∧ k ≤ 3 ∧ T 1 1 = 0 ∧ M 0 2 = 0 ∧ s ≤ e ∧ e ≤ t ∧ (k = 0 → s = t) ∧ (k ≠ 0 → s < e) ∧ (k = 2 → e - s ≤ 3 ∧ M 0 7 = vI f s (e - s))
/-- where the model stands -/
def HM (t : Nat) (M : oa_I2) (s e k : Nat) : Prop := M 0 4 = nI e ∧ M 0 5 = nI s ∧ M 0 6 = nI k ∧ k ≤ 3 ∧ s ≤ e ∧ e ≤ t
/-- both are broken by the same fault at the same place -/
def BRt (t : Nat) (T M : oa_I2) : Prop := (∃ c s : Nat, 0 < c ∧ c ≤ 7 ∧ T 1 1 = nI c ∧ M 0 2 = nI c ∧ T 1 2 = nI s ∧ M 0 3 = nI s) ∧ ∃ s e k, HM t M s e k
section TK2
variable {T M V : oa_I2} {K : oa_J2} {t : Nat} {f : Nat → Nat}
def kp (f : Nat → Nat) (k : Nat) (j : Nat) : Bool := decide (kd (f j) = k)
/-- the class's run of one kind -/
theorem cl_run {X : oa_I2} {s k : Nat} (h : TP t f X M) (hs : s < t) (hk : kd (f s) = k) (hk3 : k ≠ 3) (h5 : X 1 5 = nI k) (h4 : X 1 4 = nI (s + 1)) : l_X4_advance_108 V oa_fu X = b_X4_advance_159 V (va_up X 1 (upd (X 1) 4 (nI (sp (kp f k) t (s + 1))))) := by
  obtain ⟨s1, s2, s3, s4⟩ := sp_spec (kp f k) (show s + 1 ≤ t by omega)
  have ht := h.1
  have hk4 := kd_le (f s)
  have n3 : ¬ nI k = 3 := nI_neq (b := 3) hk3 (by omega) (by omega)
  unfold l_X4_advance_108
  refine oa_for (fun i => va_up X 1 (upd (X 1) 4 (nI (s + 1 + i)))) (sp (kp f k) t (s + 1) - (s + 1)) ?_ ?_ ?_ oa_fu (by rw [oa_fu_eq]; omega)
  · rw [Nat.add_zero, ← h4, va_up_1]
  · intro i hi kk
    have hb : kd (f (s + 1 + i)) = k := of_decide_eq_true (s3 (s + 1 + i) (by omega) (by omega))
    have hd := h.2.2.2 (s + 1 + i) (by omega)
    show b_X4_advance_108 V (fun T => kk T) (va_up X 1 (upd (X 1) 4 (nI (s + 1 + i)))) = _
    unfold b_X4_advance_108
    rw [va_up_s, upd_s, upd_n _ _ (show (0 : Nat) ≠ 4 by omega), upd_n _ _ (show (5 : Nat) ≠ 4 by omega), h5, if_neg n3, h.2.1, if_neg (nI_ge (by omega) (by omega)), va_up_n _ _ (show (0 : Nat) ≠ 1 by omega), oa_rd_nI (by omega) (by omega), hd.2.1]
    simp only [oa_bs, oa_lt, oa_up2]
    rw [kd_ok _ hd.1, hb]
    simp only [oa_bs, if_true]
    rw [upd_upd, nI_1, Nat.add_assoc (s + 1)]
  · intro kk
    show b_X4_advance_108 V (fun T => kk T) (va_up X 1 (upd (X 1) 4 (nI (s + 1 + (sp (kp f k) t (s + 1) - (s + 1)))))) = _
    rw [show s + 1 + (sp (kp f k) t (s + 1) - (s + 1)) = sp (kp f k) t (s + 1) by omega]
    unfold b_X4_advance_108
    rw [va_up_s, upd_s, upd_n _ _ (show (0 : Nat) ≠ 4 by omega), upd_n _ _ (show (5 : Nat) ≠ 4 by omega), h5, if_neg n3, h.2.1]
    by_cases l : sp (kp f k) t (s + 1) < t
    · have hb : kd (f (sp (kp f k) t (s + 1))) ≠ k := of_decide_eq_false (s4 l)
      have hd := h.2.2.2 _ l
      have hk5 := kd_le (f (sp (kp f k) t (s + 1)))
      rw [if_neg (nI_ge l (by omega)), va_up_n _ _ (show (0 : Nat) ≠ 1 by omega), oa_rd_nI (by omega) (by omega), hd.2.1]
      simp only [oa_bs]
      rw [kd_ok _ hd.1]
      simp only [oa_bs]
      rw [if_neg (nI_neq hb (by omega) (by omega))]
    · rw [if_pos (nI_le (by omega) (by omega))]
theorem sp_step {p : Nat → Bool} {s : Nat} (hs : s < t) (h : p s = true) : sp p t s = sp p t (s + 1) := by
  unfold sp
  rw [show t - s = (t - (s + 1)) + 1 by omega]
  show (if p s = true then spn p (t - (s + 1)) (s + 1) else s) = _
  rw [if_pos h]
/-- the model's run of letters -/
theorem md_az {X : oa_I2} {s : Nat} (h : TP t f T X) (hs : s < t) (hk : kd (f s) = 1) (h4 : X 0 4 = nI s) : l_X7_step_84 K oa_fu X = some (va_up X 0 (upd (upd (X 0) 4 (nI (sp (kp f 1) t (s + 1)))) 6 1)) := by
  have he := sp_step (p := kp f 1) hs (decide_eq_true hk)
  rw [← he]
  obtain ⟨s1, s2, s3, s4⟩ := sp_spec (kp f 1) (show s ≤ t by omega)
  have ht := h.1
  unfold l_X7_step_84
  refine oa_for (fun i => va_up X 0 (upd (X 0) 4 (nI (s + i)))) (sp (kp f 1) t s - s) ?_ ?_ ?_ oa_fu (by rw [oa_fu_eq]; omega)
  · rw [Nat.add_zero, ← h4, va_up_0]
  · intro i hi kk
    have hb := s3 (s + i) (by omega) (by omega)
    have hd := h.2.2.2 (s + i) (by omega)
    show b_X7_step_84 K (fun M => kk M) (va_up X 0 (upd (X 0) 4 (nI (s + i)))) = _
    unfold b_X7_step_84
    rw [va_up_s, upd_s, md_byteAt (TP_um h (by omega)) (by omega), if_pos (by omega)]
    simp only [oa_bs]
    rw [in_az _ hd.1, show decide (kd (f (s + i)) = 1) = true from hb]
    simp only [oa_bs, oa_bi_if0, if_true, oa_lt, oa_up2]
    rw [upd_upd, nI_1, Nat.add_assoc]
  · intro kk
    show b_X7_step_84 K (fun M => kk M) (va_up X 0 (upd (X 0) 4 (nI (s + (sp (kp f 1) t s - s))))) = _
    rw [show s + (sp (kp f 1) t s - s) = sp (kp f 1) t s by omega]
    unfold b_X7_step_84
    rw [va_up_s, upd_s, md_byteAt (TP_um h (by omega)) (by omega)]
    simp only [oa_bs]
    have hin : f_X7_in (if sp (kp f 1) t s < t then nI (f (sp (kp f 1) t s)) else oNO).toInt64 97 122 = some (oa_bi false) := by
      by_cases l : sp (kp f 1) t s < t
      · rw [if_pos l, in_az _ (h.2.2.2 _ l).1, show decide (kd (f (sp (kp f 1) t s)) = 1) = false from s4 l]
      · rw [if_neg l]; exact in_az4
    rw [hin]
    simp only [oa_bs, oa_bi_if0, oa_lt, oa_up2]
    rw [if_neg (by decide)]
/-- the model's run of figures -/
theorem md_09 {X : oa_I2} {s : Nat} (h : TP t f T X) (hs : s < t) (hk : kd (f s) = 2) (h4 : X 0 4 = nI s) (h5 : X 0 5 = nI s) (h7 : X 0 7 = 0) (h2 : X 0 2 = 0) : ∃ X', l_X7_step_140 K oa_fu X = some X' ∧ FM X X' ∧ X' 0 4 = nI (sp (kp f 2) t (s + 1)) ∧ X' 0 5 = nI s ∧ X' 0 6 = 2 ∧ (sp (kp f 2) t (s + 1) - s ≤ 3 → X' 0 2 = 0 ∧ X' 0 7 = vI f s (sp (kp f 2) t (s + 1) - s)) ∧ (¬ sp (kp f 2) t (s + 1) - s ≤ 3 → X' 0 2 = 1 ∧ X' 0 3 = nI s) := by
  have he := sp_step (p := kp f 2) hs (decide_eq_true hk)
  rw [← he]
  obtain ⟨s1, s2, s3, s4⟩ := sp_spec (kp f 2) (show s ≤ t by omega)
  have ht := h.1
  unfold l_X7_step_140
  refine oa_forR (fun o => ∃ X', o = some X' ∧ FM X X' ∧ X' 0 4 = nI (sp (kp f 2) t s) ∧ X' 0 5 = nI s ∧ X' 0 6 = 2 ∧ (sp (kp f 2) t s - s ≤ 3 → X' 0 2 = 0 ∧ X' 0 7 = vI f s (sp (kp f 2) t s - s)) ∧ (¬ sp (kp f 2) t s - s ≤ 3 → X' 0 2 = 1 ∧ X' 0 3 = nI s)) (fun i Y => FM X Y ∧ Y 0 4 = nI (s + i) ∧ Y 0 5 = nI s ∧ Y 0 2 = 0 ∧ (i ≤ 3 → Y 0 7 = vI f s i) ∧ TP t f T Y) (sp (kp f 2) t s - s) ⟨⟨fun _ _ => rfl, fun _ _ => rfl⟩, h4, h5, h2, fun _ => h7, h⟩ ?_ ?_ oa_fu (by rw [oa_fu_eq]; omega)
  · rintro i hi Y ⟨y1, y4, y5, y2, y7, yt⟩
    left
    have hb := s3 (s + i) (by omega) (by omega)
    have hd := h.2.2.2 (s + i) (by omega)
    have hfin : ∀ v : Int32, (i + 1 ≤ 3 → v = vI f s (i + 1)) → FM X (va_up Y 0 (upd (upd (Y 0) 7 v) 4 (nI (s + (i + 1))))) ∧ va_up Y 0 (upd (upd (Y 0) 7 v) 4 (nI (s + (i + 1)))) 0 4 = nI (s + (i + 1)) ∧ va_up Y 0 (upd (upd (Y 0) 7 v) 4 (nI (s + (i + 1)))) 0 5 = nI s ∧ va_up Y 0 (upd (upd (Y 0) 7 v) 4 (nI (s + (i + 1)))) 0 2 = 0 ∧ (i + 1 ≤ 3 → va_up Y 0 (upd (upd (Y 0) 7 v) 4 (nI (s + (i + 1)))) 0 7 = vI f s (i + 1)) ∧ TP t f T (va_up Y 0 (upd (upd (Y 0) 7 v) 4 (nI (s + (i + 1))))) := by
      intro v hv
      refine ⟨⟨fun a ha => by rw [va_up_n _ _ ha]; exact y1.1 a ha, fun j hj => ?_⟩, ?_, ?_, ?_, fun hl => ?_, ?_⟩
      · rw [va_up_s, upd_n _ _ (by omega), upd_n _ _ (by omega)]; exact y1.2 j hj
      · rw [va_up_s, upd_s]
      · rw [va_up_s, upd_n _ _ (by omega), upd_n _ _ (by omega)]; exact y5
      · rw [va_up_s, upd_n _ _ (by omega), upd_n _ _ (by omega)]; exact y2
      · rw [va_up_s, upd_n _ _ (by omega), upd_s]; exact hv hl
      · obtain ⟨t1, t2, t3, t4⟩ := yt
        exact ⟨t1, t2, by rw [va_up_s, upd_n _ _ (by omega), upd_n _ _ (by omega)]; exact t3, fun j hj => by rw [va_up_n _ _ (by omega)]; exact t4 j hj⟩
    have h201 : ∀ kk v, b_X7_step_201 K kk Y v = kk (va_up Y 0 (upd (upd (Y 0) 7 v) 4 (nI (s + (i + 1))))) := by
      intro kk v
      unfold b_X7_step_201
      simp only [oa_lt, va_up_s, oa_up2]
      rw [upd_n _ _ (show (4 : Nat) ≠ 7 by omega), y4, nI_1, Nat.add_assoc]
    have hsub : Y 0 4 - Y 0 5 = nI i := by rw [y4, y5, pk_sub (by omega), Nat.add_sub_cancel_left]
    have hbody : ∀ kk : oa_I2 → Option oa_I2, b_X7_step_140 K (fun M => kk M) Y = if 3 ≤ i then kk (va_up Y 0 (upd (upd (Y 0) 7 (Y 0 7)) 4 (nI (s + (i + 1))))) else kk (va_up Y 0 (upd (upd (Y 0) 7 (((10 * (Y 0 7)) + nI (f (s + i))) - 48)) 4 (nI (s + (i + 1))))) := by
      intro kk
      unfold b_X7_step_140
      rw [y4, md_byteAt yt (by omega), if_pos (by omega)]
      simp only [oa_bs]
      rw [in_09 _ hd.1, show decide (kd (f (s + i)) = 2) = true from hb]
      simp only [oa_bs, oa_bi_if0, if_true]
      rw [← y4, hsub]
      by_cases l : 3 ≤ i
      · rw [if_pos (show (3 : Int32) ≤ nI i from nI_le (a := 3) l (by omega)), if_pos l, h201]
      · rw [if_neg (show ¬ (3 : Int32) ≤ nI i from nI_ge (b := 3) (by omega) (by omega)), if_neg l, h201]
    by_cases l : 3 ≤ i
    · refine ⟨_, hfin (Y 0 7) (fun c => by omega), fun kk => ?_⟩
      rw [hbody, if_pos l]
    · refine ⟨_, hfin (((10 * (Y 0 7)) + nI (f (s + i))) - 48) (fun c => ?_), fun kk => ?_⟩
      · rw [y7 (by omega), Int32.mul_comm]; rfl
      · rw [hbody, if_neg l]
  · rintro Y ⟨y1, y4, y5, y2, y7, yt⟩
    rw [show s + (sp (kp f 2) t s - s) = sp (kp f 2) t s by omega] at y4
    have hin : f_X7_in (if sp (kp f 2) t s < t then nI (f (sp (kp f 2) t s)) else oNO).toInt64 48 57 = some (oa_bi false) := by
      by_cases l : sp (kp f 2) t s < t
      · rw [if_pos l, in_09 _ (h.2.2.2 _ l).1, show decide (kd (f (sp (kp f 2) t s)) = 2) = false from s4 l]
      · rw [if_neg l]; exact in_094
    have hsub : Y 0 4 - Y 0 5 = nI (sp (kp f 2) t s - s) := by rw [y4, y5, pk_sub (by omega)]
    have hbody : ∀ kk, b_X7_step_140 K kk Y = if sp (kp f 2) t s - s ≤ 3 then some (va_up Y 0 (upd (Y 0) 6 2)) else some (va_up Y 0 (upd (upd (upd (Y 0) 6 2) 2 1) 3 (nI s))) := by
      intro kk
      unfold b_X7_step_140
      rw [y4, md_byteAt yt (by omega)]
      simp only [oa_bs]
      rw [hin]
      simp only [oa_bs, oa_bi_if0, oa_lt]
      rw [if_neg (by decide), va_up_s, upd_n _ _ (show (4 : Nat) ≠ 6 by omega), upd_n _ _ (show (5 : Nat) ≠ 6 by omega), hsub]
      by_cases l : sp (kp f 2) t s - s ≤ 3
      · rw [if_pos (show nI (sp (kp f 2) t s - s) ≤ 3 from nI_le (b := 3) l (by omega)), if_pos l]
      · rw [if_neg (show ¬ nI (sp (kp f 2) t s - s) ≤ 3 from nI_ge (a := 3) (by omega) (by omega)), if_neg l]
        unfold f_X7_fails
        rw [va_up_s, upd_n _ _ (show (2 : Nat) ≠ 6 by omega), y2, if_pos rfl]
        simp only [oa_lt, oa_bs, oa_up2, va_up_s]
        rw [upd_n _ _ (show (5 : Nat) ≠ 2 by omega), upd_n _ _ (show (5 : Nat) ≠ 6 by omega), y5]
    by_cases l : sp (kp f 2) t s - s ≤ 3
    · refine ⟨some (va_up Y 0 (upd (Y 0) 6 2)), ⟨_, rfl, ⟨fun a ha => by rw [va_up_n _ _ ha]; exact y1.1 a ha, fun j hj => by rw [va_up_s, upd_n _ _ (by omega)]; exact y1.2 j hj⟩, ?_, ?_, ?_, fun _ => ⟨?_, ?_⟩, fun c => absurd l c⟩, fun kk => by rw [hbody, if_pos l]⟩
      · rw [va_up_s, upd_n _ _ (by omega)]; exact y4
      · rw [va_up_s, upd_n _ _ (by omega)]; exact y5
      · rw [va_up_s, upd_s]
      · rw [va_up_s, upd_n _ _ (by omega)]; exact y2
      · rw [va_up_s, upd_n _ _ (by omega)]; exact y7 l
    · refine ⟨some (va_up Y 0 (upd (upd (upd (Y 0) 6 2) 2 1) 3 (nI s))), ⟨_, rfl, ⟨fun a ha => by rw [va_up_n _ _ ha]; exact y1.1 a ha, fun j hj => by rw [va_up_s, upd_n _ _ (by omega), upd_n _ _ (by omega), upd_n _ _ (by omega)]; exact y1.2 j hj⟩, ?_, ?_, ?_, fun c => absurd c l, fun _ => ⟨?_, ?_⟩⟩, fun kk => by rw [hbody, if_neg l]⟩
      · rw [va_up_s, upd_n _ _ (by omega), upd_n _ _ (by omega), upd_n _ _ (by omega)]; exact y4
      · rw [va_up_s, upd_n _ _ (by omega), upd_n _ _ (by omega), upd_n _ _ (by omega)]; exact y5
      · rw [va_up_s, upd_n _ _ (by omega), upd_n _ _ (by omega), upd_s]
      · rw [va_up_s, upd_n _ _ (by omega), upd_s]
      · rw [va_up_s, upd_s]
end TK2
