section TK3
variable {T M V : oa_I2} {K : oa_J2} {t : Nat} {f : Nat → Nat}
theorem FT_up {X : oa_I2} {k : Nat} {x : Int32} (h : FT T X) (hk : k = 1 ∨ k = 2 ∨ k = 4 ∨ k = 5 ∨ k = 6) : FT T (va_up X 1 (upd (X 1) k x)) :=
  ⟨fun a ha => by rw [va_up_n _ _ ha]; exact h.1 a ha, fun j j1 j2 j4 j5 j6 => by rw [va_up_s, upd_n _ _ (by omega)]; exact h.2 j j1 j2 j4 j5 j6⟩
theorem FM_up {X : oa_I2} {k : Nat} {x : Int32} (h : FM M X) (hk : 2 ≤ k ∧ k ≤ 7) : FM M (va_up X 0 (upd (X 0) k x)) :=
  ⟨fun a ha => by rw [va_up_n _ _ ha]; exact h.1 a ha, fun j hj => by rw [va_up_s, upd_n _ _ (by omega)]; exact h.2 j hj⟩
theorem FT_refl (T : oa_I2) : FT T T := ⟨fun _ _ => rfl, fun _ _ _ _ _ _ => rfl⟩
theorem FM_refl (M : oa_I2) : FM M M := ⟨fun _ _ => rfl, fun _ _ => rfl⟩
theorem FT_trans {X Y Z : oa_I2} (h : FT X Y) (g : FT Y Z) : FT X Z := ⟨fun a ha => (g.1 a ha).trans (h.1 a ha), fun j j1 j2 j4 j5 j6 => (g.2 j j1 j2 j4 j5 j6).trans (h.2 j j1 j2 j4 j5 j6)⟩
theorem FM_trans {X Y Z : oa_I2} (h : FM X Y) (g : FM Y Z) : FM X Z := ⟨fun a ha => (g.1 a ha).trans (h.1 a ha), fun j hj => (g.2 j hj).trans (h.2 j hj)⟩
theorem TP_F {T' M' : oa_I2} (h : TP t f T M) (ht : FT T T') (hm : FM M M') : TP t f T' M' := by
  obtain ⟨h1, h2, h3, h4⟩ := h
  refine ⟨h1, ?_, ?_, fun k hk => ?_⟩
  · rw [ht.2 0 (by omega) (by omega) (by omega) (by omega) (by omega)]; exact h2
  · rw [hm.2 0 (by omega)]; exact h3
  · rw [ht.1 0 (by omega), hm.1 5 (by omega)]; exact h4 k hk
theorem rd1 (X : oa_I2) (k : Nat) (x : Int32) : va_up X 1 (upd (X 1) k x) 1 k = x := by rw [va_up_s, upd_s]
theorem rd1n (X : oa_I2) {k j : Nat} (x : Int32) (h : j ≠ k) : va_up X 1 (upd (X 1) k x) 1 j = X 1 j := by rw [va_up_s, upd_n _ _ h]
theorem rd0 (X : oa_I2) (k : Nat) (x : Int32) : va_up X 0 (upd (X 0) k x) 0 k = x := by rw [va_up_s, upd_s]
theorem rd0n (X : oa_I2) {k j : Nat} (x : Int32) (h : j ≠ k) : va_up X 0 (upd (X 0) k x) 0 j = X 0 j := by rw [va_up_s, upd_n _ _ h]
theorem f_fail (T V : oa_I2) (c s : Int32) : f_X4_fail T V c s = some (0, va_up (va_up T 1 (upd (T 1) 1 c)) 1 (upd (va_up T 1 (upd (T 1) 1 c) 1) 2 s)) := rfl
theorem f_fails {c : Int32} (h : M 0 2 = 0) : f_X7_fails M K c = some (va_up (va_up M 0 (upd (M 0) 2 c)) 0 (upd (va_up M 0 (upd (M 0) 2 c) 0) 3 (M 0 5))) := by
  unfold f_X7_fails
  rw [if_pos h]
  simp only [oa_lt]
  rw [rd0n _ _ (show (5 : Nat) ≠ 2 by omega)]
theorem f_fails_b {c : Int32} (h : ¬ M 0 2 = 0) : f_X7_fails M K c = some M := by
  unfold f_X7_fails
  rw [if_neg h]
/-- one token in both -/
theorem tok {a : Nat} (h : TP t f T M) (ha : a ≤ t) (h4 : T 1 4 = nI a) (m4 : M 0 4 = nI a) (hb : M 0 2 = 0) (hf : T 1 1 = 0) : ∃ T' M', FT T T' ∧ FM M M' ∧ f_X7_step M K = some M' ∧ ((f_X4_advance T V = some (1, T') ∧ ∃ s e k, OKt t f T' M' s e k ∧ a ≤ s) ∨ (f_X4_advance T V = some (0, T') ∧ BRt t T' M')) := by
  obtain ⟨s1, s2, s3, s4⟩ := sp_spec (bl f) ha
  have ht := h.1
  rw [cl_blanks h ha h4, md_blanks h ha m4 hb]
  generalize sp (bl f) t a = s at s1 s2 s3 s4
  -- the class behind blanks
  have hT1 : TP t f (va_up (va_up T 1 (upd (T 1) 4 (nI s))) 1 (upd (va_up T 1 (upd (T 1) 4 (nI s)) 1) 6 (nI s))) M := TP_up (TP_up h (by omega)) (by omega)
  have hF1 : FT T (va_up (va_up T 1 (upd (T 1) 4 (nI s))) 1 (upd (va_up T 1 (upd (T 1) 4 (nI s)) 1) 6 (nI s))) := FT_up (FT_up (FT_refl T) (by omega)) (by omega)
  have e38 : ∀ V, b_X4_advance_38 V (va_up T 1 (upd (T 1) 4 (nI s))) = oa_let (va_up (va_up T 1 (upd (T 1) 4 (nI s))) 1 (upd (va_up T 1 (upd (T 1) 4 (nI s)) 1) 6 (nI s))) (fun T7 => if (T7 1 4) < (T7 1 0) then ((oa_rd (T7 0) 320 (T7 1 4)).bind fun (y10 : Int32) => (f_X4_kindOf y10).bind fun (y12 : Int32) => oa_let (va_up T7 1 (upd (T7 1) 5 y12)) fun (T15 : oa_I2) => if (T15 1 5) = 4 then ((f_X4_fail T15 V 1 (T15 1 6)).bind <| oa_u fun (y20 : Int32) (T21 : oa_I2) => (oa_zc y20).bind fun (z24 : Int32) => some (z24, T21)) else (oa_let (va_up T15 1 (upd (T15 1) 4 ((T15 1 4) + 1))) fun (T18 : oa_I2) => l_X4_advance_108 V oa_fu T18)) else (oa_let (va_up T7 1 (upd (T7 1) 5 0)) fun (T26 : oa_I2) => some (1, T26))) := by
    intro V
    unfold b_X4_advance_38
    rw [rd1]
  have x4 : va_up (va_up T 1 (upd (T 1) 4 (nI s))) 1 (upd (va_up T 1 (upd (T 1) 4 (nI s)) 1) 6 (nI s)) 1 4 = nI s := by rw [rd1n _ _ (by omega), rd1]
  have x6 : va_up (va_up T 1 (upd (T 1) 4 (nI s))) 1 (upd (va_up T 1 (upd (T 1) 4 (nI s)) 1) 6 (nI s)) 1 6 = nI s := rd1 _ _ _
  have x1 : va_up (va_up T 1 (upd (T 1) 4 (nI s))) 1 (upd (va_up T 1 (upd (T 1) 4 (nI s)) 1) 6 (nI s)) 1 1 = 0 := by rw [rd1n _ _ (by omega), rd1n _ _ (by omega)]; exact hf
  rw [e38]
  generalize va_up (va_up T 1 (upd (T 1) 4 (nI s))) 1 (upd (va_up T 1 (upd (T 1) 4 (nI s)) 1) 6 (nI s)) = X at hT1 hF1 x4 x6 x1
  simp only [oa_lt]
  rw [x4, hT1.2.1]
  -- the model behind blanks
  have hM0 : TP t f X (va_up M 0 (upd (M 0) 4 (nI s))) := TP_um hT1 (by omega)
  have hM1 : TP t f X (va_up (va_up M 0 (upd (M 0) 4 (nI s))) 0 (upd (va_up M 0 (upd (M 0) 4 (nI s)) 0) 5 (nI s))) := TP_um hM0 (by omega)
  have hM2 : TP t f X (va_up (va_up (va_up M 0 (upd (M 0) 4 (nI s))) 0 (upd (va_up M 0 (upd (M 0) 4 (nI s)) 0) 5 (nI s))) 0 (upd (va_up (va_up M 0 (upd (M 0) 4 (nI s))) 0 (upd (va_up M 0 (upd (M 0) 4 (nI s)) 0) 5 (nI s)) 0) 7 0)) := TP_um hM1 (by omega)
  have hF2 : FM M (va_up (va_up (va_up M 0 (upd (M 0) 4 (nI s))) 0 (upd (va_up M 0 (upd (M 0) 4 (nI s)) 0) 5 (nI s))) 0 (upd (va_up (va_up M 0 (upd (M 0) 4 (nI s))) 0 (upd (va_up M 0 (upd (M 0) 4 (nI s)) 0) 5 (nI s)) 0) 7 0)) := FM_up (FM_up (FM_up (FM_refl M) (by omega)) (by omega)) (by omega)
  have hne : ¬ (if s < t then nI (f s) else oNO) = 32 := by
    by_cases l : s < t
    · have hbb : f s ≠ 32 := of_decide_eq_false (s4 l)
      have hd := h.2.2.2 _ l
      rw [if_pos l]
      exact nI_neq (b := 32) hbb (by omega) (by omega)
    · rw [if_neg l]; decide
  have e8 : b_X7_step_8 K (fun _ => none) (va_up M 0 (upd (M 0) 4 (nI s))) = oa_let (va_up (va_up (va_up M 0 (upd (M 0) 4 (nI s))) 0 (upd (va_up M 0 (upd (M 0) 4 (nI s)) 0) 5 (nI s))) 0 (upd (va_up (va_up M 0 (upd (M 0) 4 (nI s))) 0 (upd (va_up M 0 (upd (M 0) 4 (nI s)) 0) 5 (nI s)) 0) 7 0)) (fun M11 => if (if s < t then nI (f s) else oNO) = (-4) then (oa_let (va_up M11 0 (upd (M11 0) 6 0)) fun (M30 : oa_I2) => some (M30)) else ((f_X7_in (Int32.toInt64 (if s < t then nI (f s) else oNO)) 97 122).bind fun (y14 : Int32) => if y14 = 0 then ((f_X7_in (Int32.toInt64 (if s < t then nI (f s) else oNO)) 48 57).bind fun (y18 : Int32) => if y18 = 0 then (oa_let (va_up M11 0 (upd (M11 0) 6 3)) fun (M22 : oa_I2) => oa_let (va_up M22 0 (upd (M22 0) 4 ((M22 0 4) + 1))) fun (M24 : oa_I2) => if (if s < t then nI (f s) else oNO) = 59 then some (M24) else ((f_X7_fails M24 K 1).bind fun (M27 : oa_I2) => some (M27))) else l_X7_step_140 K oa_fu M11) else l_X7_step_84 K oa_fu M11)) := by
    unfold b_X7_step_8
    rw [rd0, md_byteAt hM0 s2]
    simp only [oa_bs]
    rw [if_neg hne]
    simp only [oa_lt]
    rw [rd0n _ _ (show (4 : Nat) ≠ 5 by omega), rd0, md_byteAt hM1 s2]
    simp only [oa_bs]
  have w4 : va_up (va_up (va_up M 0 (upd (M 0) 4 (nI s))) 0 (upd (va_up M 0 (upd (M 0) 4 (nI s)) 0) 5 (nI s))) 0 (upd (va_up (va_up M 0 (upd (M 0) 4 (nI s))) 0 (upd (va_up M 0 (upd (M 0) 4 (nI s)) 0) 5 (nI s)) 0) 7 0) 0 4 = nI s := by rw [rd0n _ _ (by omega), rd0n _ _ (by omega), rd0]
  have w5 : va_up (va_up (va_up M 0 (upd (M 0) 4 (nI s))) 0 (upd (va_up M 0 (upd (M 0) 4 (nI s)) 0) 5 (nI s))) 0 (upd (va_up (va_up M 0 (upd (M 0) 4 (nI s))) 0 (upd (va_up M 0 (upd (M 0) 4 (nI s)) 0) 5 (nI s)) 0) 7 0) 0 5 = nI s := by rw [rd0n _ _ (by omega), rd0]
  have w7 : va_up (va_up (va_up M 0 (upd (M 0) 4 (nI s))) 0 (upd (va_up M 0 (upd (M 0) 4 (nI s)) 0) 5 (nI s))) 0 (upd (va_up (va_up M 0 (upd (M 0) 4 (nI s))) 0 (upd (va_up M 0 (upd (M 0) 4 (nI s)) 0) 5 (nI s)) 0) 7 0) 0 7 = 0 := rd0 _ _ _
  have w2 : va_up (va_up (va_up M 0 (upd (M 0) 4 (nI s))) 0 (upd (va_up M 0 (upd (M 0) 4 (nI s)) 0) 5 (nI s))) 0 (upd (va_up (va_up M 0 (upd (M 0) 4 (nI s))) 0 (upd (va_up M 0 (upd (M 0) 4 (nI s)) 0) 5 (nI s)) 0) 7 0) 0 2 = 0 := by rw [rd0n _ _ (by omega), rd0n _ _ (by omega), rd0n _ _ (by omega)]; exact hb
  rw [e8]
  generalize va_up (va_up (va_up M 0 (upd (M 0) 4 (nI s))) 0 (upd (va_up M 0 (upd (M 0) 4 (nI s)) 0) 5 (nI s))) 0 (upd (va_up (va_up M 0 (upd (M 0) 4 (nI s))) 0 (upd (va_up M 0 (upd (M 0) 4 (nI s)) 0) 5 (nI s)) 0) 7 0) = Y at hM2 hF2 w2 w4 w5 w7
  simp only [oa_lt]
  by_cases l : s < t
  case neg =>
    have est : s = t := by omega
    rw [if_neg (nI_nlt (by omega) (by omega)), if_neg l, if_pos (show oNO = -4 from rfl)]
    refine ⟨_, _, FT_up hF1 (by omega), FM_up hF2 (by omega), rfl, Or.inl ⟨rfl, s, s, 0, ⟨?_, ?_, ?_, ?_, ?_, ?_, by omega, ?_, ?_, Nat.le_refl s, by omega, fun _ => est, fun c => absurd rfl c, fun c => absurd c (by omega)⟩, s1⟩⟩
    · rw [rd1n _ _ (by omega)]; exact x4
    · rw [rd0n _ _ (by omega)]; exact w4
    · rw [rd1n _ _ (by omega)]; exact x6
    · rw [rd0n _ _ (by omega)]; exact w5
    · rw [rd1]; rfl
    · rw [rd0]; rfl
    · rw [rd1n _ _ (by omega)]; exact x1
    · rw [rd0n _ _ (by omega)]; exact w2
  have hd := hT1.2.2.2 s l
  have hk4 := kd_le (f s)
  have n4 : ¬ nI (f s) = -4 := oa_no (by omega)
  rw [if_pos (nI_lt l (by omega)), if_pos l, if_neg n4, oa_rd_nI (by omega) (by omega), hd.2.1, in_az _ hd.1, in_09 _ hd.1]
  simp only [oa_bs, oa_bi_if0]
  rw [kd_ok _ hd.1]
  simp only [oa_bs, rd1]
  have hTZ : TP t f (va_up X 1 (upd (X 1) 5 (nI (kd (f s))))) Y := TP_up hM2 (by omega)
  have hFZ : FT T (va_up X 1 (upd (X 1) 5 (nI (kd (f s))))) := FT_up hF1 (by omega)
  have z4 : va_up X 1 (upd (X 1) 5 (nI (kd (f s)))) 1 4 = nI s := by rw [rd1n _ _ (by omega)]; exact x4
  have z6 : va_up X 1 (upd (X 1) 5 (nI (kd (f s)))) 1 6 = nI s := by rw [rd1n _ _ (by omega)]; exact x6
  have z5 : va_up X 1 (upd (X 1) 5 (nI (kd (f s)))) 1 5 = nI (kd (f s)) := rd1 _ _ _
  have z1 : va_up X 1 (upd (X 1) 5 (nI (kd (f s)))) 1 1 = 0 := by rw [rd1n _ _ (by omega)]; exact x1
  generalize va_up X 1 (upd (X 1) 5 (nI (kd (f s)))) = Z at hTZ hFZ z4 z6 z5 z1
  have hkpos : 1 ≤ kd (f s) := by unfold kd; repeat' split
                                  all_goals omega
  by_cases k4 : kd (f s) = 4
  · have h59 : ¬ nI (f s) = 59 := by
      have : f s ≠ 59 := fun e => by rw [e] at k4; exact absurd k4 (by decide)
      exact nI_neq (b := 59) this (by omega) (by omega)
    rw [k4, if_pos (show nI 4 = 4 from rfl), f_fail, z6, decide_eq_false (show ¬ (4 : Nat) = 1 by omega), decide_eq_false (show ¬ (4 : Nat) = 2 by omega)]
    rw [if_neg (show ¬ false = true by decide), if_neg (show ¬ false = true by decide), if_neg h59, f_fails (by rw [rd0n _ _ (by omega), rd0n _ _ (by omega)]; exact w2)]
    simp only [oa_bs]
    refine ⟨_, _, FT_up (FT_up hFZ (by omega)) (by omega), FM_up (FM_up (FM_up (FM_up hF2 (by omega)) (by omega)) (by omega)) (by omega), rfl, Or.inr ⟨rfl, ⟨1, s, by omega, by omega, ?_, ?_, ?_, ?_⟩, s, s + 1, 3, ?_, ?_, ?_, by omega, by omega, by omega⟩⟩
    · rw [rd1n _ _ (by omega), rd1]; rfl
    · rw [rd0n _ _ (by omega), rd0]; rfl
    · rw [rd1]
    · rw [rd0, rd0n _ _ (by omega), rd0n _ _ (by omega)]; exact w5
    · rw [rd0n _ _ (by omega), rd0n _ _ (by omega), rd0, rd0n _ _ (by omega), w4, nI_1]
    · rw [rd0n _ _ (by omega), rd0n _ _ (by omega), rd0n _ _ (by omega), rd0n _ _ (by omega)]; exact w5
    · rw [rd0n _ _ (by omega), rd0n _ _ (by omega), rd0n _ _ (by omega), rd0]; rfl
  have n4k : ¬ nI (kd (f s)) = 4 := nI_neq (b := 4) k4 (by omega) (by omega)
  rw [if_neg n4k, z4, nI_1]
  have hTZ4 : TP t f (va_up Z 1 (upd (Z 1) 4 (nI (s + 1)))) Y := TP_up hTZ (by omega)
  have hFZ4 : FT T (va_up Z 1 (upd (Z 1) 4 (nI (s + 1)))) := FT_up hFZ (by omega)
  have y4 : va_up Z 1 (upd (Z 1) 4 (nI (s + 1))) 1 4 = nI (s + 1) := rd1 _ _ _
  have y6 : va_up Z 1 (upd (Z 1) 4 (nI (s + 1))) 1 6 = nI s := by rw [rd1n _ _ (by omega)]; exact z6
  have y5 : va_up Z 1 (upd (Z 1) 4 (nI (s + 1))) 1 5 = nI (kd (f s)) := by rw [rd1n _ _ (by omega)]; exact z5
  have y1 : va_up Z 1 (upd (Z 1) 4 (nI (s + 1))) 1 1 = 0 := by rw [rd1n _ _ (by omega)]; exact z1
  generalize va_up Z 1 (upd (Z 1) 4 (nI (s + 1))) = U at hTZ4 hFZ4 y4 y6 y5 y1
  by_cases k3 : kd (f s) = 3
  · have h59 : f s = 59 := by
      unfold kd at k3
      by_cases c1 : 97 ≤ f s ∧ f s ≤ 122
      · rw [if_pos c1] at k3; omega
      · rw [if_neg c1] at k3
        by_cases c2 : 48 ≤ f s ∧ f s ≤ 57
        · rw [if_pos c2] at k3; omega
        · rw [if_neg c2] at k3
          by_cases c3 : f s = 59
          · exact c3
          · rw [if_neg c3] at k3; omega
    have hcl : l_X4_advance_108 V oa_fu U = some (1, U) := by
      unfold l_X4_advance_108
      refine oa_for (fun _ => U) 0 rfl (fun i hi => absurd hi (Nat.not_lt_zero i)) (fun kk => ?_) oa_fu (by rw [oa_fu_eq]; omega)
      show b_X4_advance_108 V (fun T => kk T) U = _
      unfold b_X4_advance_108 b_X4_advance_159
      rw [y5, k3, if_pos (show nI 3 = 3 from rfl), if_neg (show ¬ nI 3 = 2 by decide)]
    rw [hcl, k3, decide_eq_false (show ¬ (3 : Nat) = 1 by omega), decide_eq_false (show ¬ (3 : Nat) = 2 by omega), if_neg (show ¬ false = true by decide), if_neg (show ¬ false = true by decide), if_pos (show nI (f s) = 59 by rw [h59]; rfl)]
    rw [k3] at y5
    refine ⟨_, _, hFZ4, FM_up (FM_up hF2 (by omega)) (by omega), rfl, Or.inl ⟨rfl, s, s + 1, 3, ⟨y4, ?_, y6, ?_, y5, ?_, by omega, y1, ?_, by omega, by omega, fun c => absurd c (by omega), fun _ => by omega, fun c => absurd c (by omega)⟩, s1⟩⟩
    · rw [rd0, rd0n _ _ (by omega), w4, nI_1]
    · rw [rd0n _ _ (by omega), rd0n _ _ (by omega)]; exact w5
    · rw [rd0n _ _ (by omega), rd0]; rfl
    · rw [rd0n _ _ (by omega), rd0n _ _ (by omega)]; exact w2
  have hrun := cl_run (V := V) hTZ4 l rfl k3 y5 y4
  have hsp := sp_spec (kp f (kd (f s))) (show s + 1 ≤ t by omega)
  rw [hrun]
  by_cases k1 : kd (f s) = 1
  · rw [k1] at hsp y5 ⊢
    rw [md_az hM2 l k1 w4]
    have hcl : b_X4_advance_159 V (va_up U 1 (upd (U 1) 4 (nI (sp (kp f 1) t (s + 1))))) = some (1, va_up U 1 (upd (U 1) 4 (nI (sp (kp f 1) t (s + 1))))) := by
      unfold b_X4_advance_159
      rw [rd1n _ _ (show (5 : Nat) ≠ 4 by omega), y5, if_neg (show ¬ nI 1 = 2 by decide)]
    rw [hcl, decide_eq_true rfl]
    refine ⟨_, _, FT_up hFZ4 (by omega), ?_, rfl, Or.inl ⟨rfl, s, sp (kp f 1) t (s + 1), 1, ⟨rd1 _ _ _, ?_, ?_, ?_, ?_, ?_, by omega, ?_, ?_, by omega, hsp.2.1, fun c => absurd c (by omega), fun _ => by omega, fun c => absurd c (by omega)⟩, s1⟩⟩
    · exact ⟨fun a ha => by rw [va_up_n _ _ ha]; exact hF2.1 a ha, fun j hj => by rw [va_up_s, upd_n _ _ (by omega), upd_n _ _ (by omega)]; exact hF2.2 j hj⟩
    · rw [va_up_s, upd_n _ _ (by omega), upd_s]
    · rw [rd1n _ _ (by omega)]; exact y6
    · rw [va_up_s, upd_n _ _ (by omega), upd_n _ _ (by omega)]; exact w5
    · rw [rd1n _ _ (by omega)]; exact y5
    · rw [va_up_s, upd_s]; rfl
    · rw [rd1n _ _ (by omega)]; exact y1
    · rw [va_up_s, upd_n _ _ (by omega), upd_n _ _ (by omega)]; exact w2
  have k2 : kd (f s) = 2 := by omega
  rw [k2] at hsp y5 ⊢
  obtain ⟨X', m1, m2, m3, m4', m5, m6, m7⟩ := md_09 (K := K) hM2 l k2 w4 w5 w7 w2
  have hsub : nI (sp (kp f 2) t (s + 1)) - nI s = nI (sp (kp f 2) t (s + 1) - s) := pk_sub (by omega)
  rw [decide_eq_false (show ¬ (2 : Nat) = 1 by omega), decide_eq_true rfl, if_neg (show ¬ false = true by decide), if_pos rfl, m1]
  by_cases l3 : sp (kp f 2) t (s + 1) - s ≤ 3
  · have hcl : b_X4_advance_159 V (va_up U 1 (upd (U 1) 4 (nI (sp (kp f 2) t (s + 1))))) = some (1, va_up U 1 (upd (U 1) 4 (nI (sp (kp f 2) t (s + 1))))) := by
      unfold b_X4_advance_159
      rw [rd1n _ _ (show (5 : Nat) ≠ 4 by omega), y5, if_pos (show nI 2 = 2 from rfl), rd1, rd1n _ _ (show (6 : Nat) ≠ 4 by omega), y6, hsub, if_pos (show nI (sp (kp f 2) t (s + 1) - s) ≤ 3 from nI_le (b := 3) l3 (by omega))]
    rw [hcl]
    obtain ⟨q1, q2⟩ := m6 l3
    exact ⟨_, _, FT_up hFZ4 (by omega), FM_trans hF2 m2, rfl, Or.inl ⟨rfl, s, sp (kp f 2) t (s + 1), 2, ⟨rd1 _ _ _, m3, by rw [rd1n _ _ (by omega)]; exact y6, m4', by rw [rd1n _ _ (by omega)]; exact y5, m5, by omega, by rw [rd1n _ _ (by omega)]; exact y1, q1, by omega, hsp.2.1, fun c => absurd c (by omega), fun _ => by omega, fun _ => ⟨l3, q2⟩⟩, s1⟩⟩
  · have hcl : b_X4_advance_159 V (va_up U 1 (upd (U 1) 4 (nI (sp (kp f 2) t (s + 1))))) = some (0, va_up (va_up (va_up U 1 (upd (U 1) 4 (nI (sp (kp f 2) t (s + 1))))) 1 (upd (va_up U 1 (upd (U 1) 4 (nI (sp (kp f 2) t (s + 1)))) 1) 1 1)) 1 (upd (va_up (va_up U 1 (upd (U 1) 4 (nI (sp (kp f 2) t (s + 1))))) 1 (upd (va_up U 1 (upd (U 1) 4 (nI (sp (kp f 2) t (s + 1)))) 1) 1 1) 1) 2 (nI s))) := by
      unfold b_X4_advance_159
      rw [rd1n _ _ (show (5 : Nat) ≠ 4 by omega), y5, if_pos (show nI 2 = 2 from rfl), rd1, rd1n _ _ (show (6 : Nat) ≠ 4 by omega), y6, hsub, if_neg (show ¬ nI (sp (kp f 2) t (s + 1) - s) ≤ 3 from nI_ge (a := 3) (by omega) (by omega)), f_fail]
      rfl
    rw [hcl]
    obtain ⟨q1, q2⟩ := m7 l3
    exact ⟨_, _, FT_up (FT_up (FT_up hFZ4 (by omega)) (by omega)) (by omega), FM_trans hF2 m2, rfl, Or.inr ⟨rfl, ⟨1, s, by omega, by omega, by rw [rd1n _ _ (by omega), rd1]; rfl, q1, by rw [rd1], q2⟩, s, sp (kp f 2) t (s + 1), 2, m3, m4', m5, by omega, by omega, hsp.2.1⟩⟩
end TK3
