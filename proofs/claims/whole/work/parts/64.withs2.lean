/-! withs, the loop -/
def WF (T0 M0 T M : oa_I2) : Prop := FC T0 T ∧ T 1 3 = T0 1 3 ∧ T 1 8 = T0 1 8 ∧ FG M0 M ∧ M 3 = M0 3 ∧ M 0 8 = M0 0 8 ∧ M 4 99 = M0 4 99
def WE (t : Nat) (f : Nat → Nat) (n a : Nat) (T0 M0 V0 : oa_I2) (o1 : Option (Int32 × oa_I2 × oa_I2)) (o2 : Option oa_I2) : Prop := ∃ T' V' M', WF T0 M0 T' M' ∧ o2 = some (va_up M' 4 (upd (M' 4) 99 (M0 4 99 + 1))) ∧ ((o1 = some (1, T', V') ∧ V' 0 = V0 0 ∧ V' 5 = V0 5 ∧ TDX n 0 V' (M' 4) ∧ ∃ s e k, OKt t f T' M' s e k ∧ a ≤ s) ∨ (o1 = some (0, T', V') ∧ BRt t T' M') ∨ (o1 = some (0, T', V') ∧ ∃ Tp s e, OKt t f Tp M' s e 1 ∧ ∀ V, f_X4_misplaced Tp V = some (0, T')))
section WL
variable {T M V : oa_I2} {K : oa_J2} {t : Nat} {f : Nat → Nat} {n p : Nat}
theorem WF_refl : WF T M T M := ⟨FC_refl T, rfl, rfl, FG_refl M, rfl, rfl, rfl⟩
theorem WF_trans {T1 M1 T2 M2 : oa_I2} (h : WF T M T1 M1) (g : WF T1 M1 T2 M2) : WF T M T2 M2 := by
  obtain ⟨a1, a2, a3, a4, a5, a6, a7⟩ := h
  obtain ⟨b1, b2, b3, b4, b5, b6, b7⟩ := g
  exact ⟨FC_trans a1 b1, b2.trans a2, b3.trans a3, FG_trans a4 b4, b5.trans a5, b6.trans a6, b7.trans a7⟩
theorem mis_V (T V V' : oa_I2) : f_X4_misplaced T V = f_X4_misplaced T V' := rfl
/-- one with, whichever -/
theorem withA {s e k w : Nat} {tk x3 : Int32} (hw : w < 4) (h : TP t f T M) (ho : OKt t f T M s e k) (hX : TDX n 0 V (M 4)) (hp : p < n) : WQ t f n e T M V (fun k4 => if nI w = 3 then b_X4_takeWiths_94 (nI p) k4 T V tk x3 (nI w) else if nI w = 0 then ((oa_rd (oa_tbv 1) (oa_tln 1) 6).bind fun (y12 : Int32) => b_X4_takeWiths_86 (nI p) k4 T V tk x3 (nI w) 0 y12) else b_X4_takeWiths_86 (nI p) k4 T V tk x3 (nI w) 0 5) tk x3 (f_X7_readWith M K (nI p) (nI (9 + w))) := by
  match w, hw with
  | 0, _ => exact with0 h ho hX hp
  | 1, _ => exact with1 h ho hX hp
  | 2, _ => exact with2 h ho hX hp
  | 3, _ => exact with3 h ho hX hp
theorem withs {s e k : Nat} {x4 : Int32} (h : TP t f T M) (ho : OKt t f T M s e k) (hc : RC M) (hX : TDX n 0 V (M 4)) (hp : p < n) (hx : f_X7_nameHere M K = some x4) : WE t f n s T M V (f_X4_takeWiths T V (nI p)) (l_X7_readOne_136 K (nI p) oa_fu M 0 x4) := by
  have hn6 := hX.1
  have ht := h.1
  have hNH : NH f s e k x4 := by
    obtain ⟨y, y1, y2⟩ := md_nameHere (K := K) h (OK_HM ho) hc
    rw [hx] at y1
    rw [Option.some.inj y1]
    exact y2
  unfold f_X4_takeWiths l_X4_takeWiths_4 l_X7_readOne_136
  refine oa_for11 (WE t f n s T M V) (fun i (a : oa_I2 × oa_I2 × Int32 × Int32) (b : oa_I2 × Int32 × Int32) => ∃ s' e' k' j, TP t f a.1 b.1 ∧ OKt t f a.1 b.1 s' e' k' ∧ i + s ≤ s' ∧ RC b.1 ∧ TDX n 0 a.2.1 (b.1 4) ∧ NH f s' e' k' b.2.2 ∧ a.2.2.2 = nI i ∧ j < 16 ∧ a.2.2.1 = nI j ∧ b.2.1 = nI (512 * j) ∧ WF T M a.1 b.1 ∧ a.2.1 0 = V 0 ∧ a.2.1 5 = V 5) 320 ⟨s, e, k, 0, h, ho, by omega, hc, hX, hNH, rfl, by omega, rfl, rfl, WF_refl, rfl, rfl⟩ ?_ ?_ oa_fu oa_fu (by rw [oa_fu_eq]; omega) (by rw [oa_fu_eq]; omega)
  · rintro i hi ⟨T1, V1, tk, x3⟩ ⟨M1, tl, y4⟩ ⟨s', e', k', j, r1, r2, r3, r4, r5, r6, r7, r8, r9, r10, r11, r12, r13⟩
    simp only at r1 r2 r3 r4 r5 r6 r7 r9 r10 r11 r12 r13
    subst r7 r9 r10
    have r2' := r2
    obtain ⟨o1, o2, o3, o4, o5, o6, o7, o8, o9, o10, o11, o12, o13, o14⟩ := r2'
    by_cases k1 : k' = 1
    · by_cases hw : ∃ w, w < 4 ∧ y4 = nI (9 + w)
      · obtain ⟨w, w4, e4⟩ := hw
        subst e4
        have hwn : ¬ nI w = -4 := oa_no (by omega)
        have hF0 : ∀ kk : oa_I2 → oa_I2 → Int32 → Int32 → Option (Int32 × oa_I2 × oa_I2), b_X4_takeWiths_4 (nI p) kk T1 V1 (nI j) (nI i) = if ((nI j >>> (nI w &&& 31)) &&& 1) = 0 then (oa_let (nI j ||| ((1 : Int32) <<< (nI w &&& 31))) fun (y8 : Int32) => if nI w = 3 then b_X4_takeWiths_94 (nI p) kk T1 V1 y8 (nI i) (nI w) else if nI w = 0 then ((oa_rd (oa_tbv 1) (oa_tln 1) 6).bind fun (y12 : Int32) => b_X4_takeWiths_86 (nI p) kk T1 V1 y8 (nI i) (nI w) 0 y12) else b_X4_takeWiths_86 (nI p) kk T1 V1 y8 (nI i) (nI w) 0 5) else ((f_X4_fail T1 V1 4 (T1 1 6)).bind <| oa_u fun (y14 : Int32) (T15 : oa_I2) => (oa_zc y14).bind fun (z18 : Int32) => some (z18, T15, V1)) := by
          intro kk
          unfold b_X4_takeWiths_4
          rw [if_neg (show ¬ (320 : Int32) ≤ nI i from nI_ge (b := 320) hi (by omega)), o5, k1, if_pos (show nI 1 = 1 from rfl), (cl_with (V := V1) r1 r2 r6).1 w w4 rfl]
          simp only [oa_bs]
          rw [if_neg hwn]
        have hH0 : ∀ ll : oa_I2 → Int32 → Int32 → Option oa_I2, b_X7_readOne_136 K (nI p) ll M1 (nI (512 * j)) (nI (9 + w)) = if ((nI (512 * j) >>> (nI (9 + w) &&& 31)) &&& 1) = 1 then ((f_X7_fails M1 K 4).bind fun (M54 : oa_I2) => b_X7_readOne_165 K ll M54 (nI p) (nI (512 * j)) (nI (9 + w))) else b_X7_readOne_165 K ll M1 (nI p) (nI (512 * j)) (nI (9 + w)) := by
          intro ll
          unfold b_X7_readOne_136
          rw [if_pos o9, if_neg (show ¬ nI (9 + w) < 9 from nI_nlt (b := 9) (by omega) (by omega))]
        rcases R4_bit j r8 w w4 with ⟨b1, b2⟩ | ⟨b1, b2⟩
        · obtain ⟨j', j16, e1, e2⟩ := R4_set j r8 w w4
          obtain ⟨T2, V2, M2, a1, a2, a3, a4, a5, a6, a7, a8, a9⟩ := withA (K := K) (tk := nI j') (x3 := nI i) w4 r1 r2 r5 hp
          have hWF : WF T M T2 M2 := WF_trans r11 ⟨a1, a2, a3, a4, a5, a6, a7⟩
          have hTP2 := TP_G r1 a1 a4
          have hC2 := RC_G r4 a4
          rcases a9 with ⟨u1, u2, u3, u4, s2, e2', k2, u5, u6⟩ | ⟨u1, u2⟩
          · left
            obtain ⟨y, y1, y2⟩ := md_nameHere (K := K) hTP2 (OK_HM u5) hC2
            refine ⟨(T2, V2, nI j', nI (i + 1)), (M2, nI (512 * j'), y), ⟨s2, e2', k2, j', hTP2, u5, by have := o13 (by omega); omega, hC2, u2, y2, rfl, j16, rfl, rfl, hWF, u3.trans r12, u4.trans r13⟩, fun kk => ?_, fun ll => ?_⟩
            · show b_X4_takeWiths_4 (nI p) (fun a b c d => kk (a, b, c, d)) T1 V1 (nI j) (nI i) = _
              rw [hF0, if_pos b1, e1]
              refine (u1 (fun a b c d => kk (a, b, c, d))).trans ?_
              rw [nI_1]
            · show b_X7_readOne_136 K (nI p) (fun a b c => ll (a, b, c)) M1 (nI (512 * j)) (nI (9 + w)) = _
              rw [hH0, if_neg b2]
              unfold b_X7_readOne_165
              rw [e2, a8]
              simp only [oa_bs, oa_lt]
              rw [y1]
              rfl
          · right
            intro fu gu
            obtain ⟨_, s2, e2', k2, hHM⟩ := id u2
            obtain ⟨y, y1, y2⟩ := md_nameHere (K := K) hTP2 hHM hC2
            refine ⟨T2, V2, M2, hWF, ?_, Or.inr (Or.inl ⟨?_, u2⟩)⟩
            · show b_X7_readOne_136 K (nI p) (fun a b c => oa_fix _ (gu + 1) (a, b, c)) M1 (nI (512 * j)) (nI (9 + w)) = _
              rw [hH0, if_neg b2]
              unfold b_X7_readOne_165
              rw [e2, a8]
              simp only [oa_bs, oa_lt]
              rw [y1]
              simp only [oa_bs]
              refine (r136_br (br_ne u2)).trans ?_
              rw [hWF.2.2.2.2.2.2]
            · show b_X4_takeWiths_4 (nI p) (fun a b c d => oa_fix _ fu (a, b, c, d)) T1 V1 (nI j) (nI i) = _
              rw [hF0, if_pos b1, e1]
              exact u1 _
        · right
          intro fu gu
          obtain ⟨T2, M2, q1, q2, q3, q4, q5⟩ := both_fail (K := K) (V := V1) (c := 4) (x := 4) r2 (by omega) (by omega) rfl
          obtain ⟨g, g1, g2⟩ := br_with (K := K) (p := p) w4 (by omega) q5
          have q6 := BR_r (g := g) q5 (show 4 ≠ 0 by omega)
          have hS := FS_of q3
          have hWF2 : WF T1 M1 T2 (va_up M2 4 g) := by
            refine ⟨FC_of hS, hS.2.2.1, hS.2.2.2, FG_trans (FG_of q4) (FG_r (Or.inr rfl)), (va_up_n _ _ (by omega)).trans (q4.1 3 (by omega)), ?_, ?_⟩
            · rw [va_up_n _ _ (by omega)]; exact q4.2 8 (by omega)
            · rw [va_up_s, g2, q4.1 4 (by omega)]
          have hWF := WF_trans r11 hWF2
          obtain ⟨_, s2, e2', k2, hHM⟩ := id q6
          obtain ⟨y, y1, y2⟩ := md_nameHere (K := K) (TP_G r1 hWF2.1 hWF2.2.2.2.1) hHM (RC_G r4 hWF2.2.2.2.1)
          refine ⟨T2, V1, va_up M2 4 g, hWF, ?_, Or.inr (Or.inl ⟨?_, q6⟩)⟩
          · show b_X7_readOne_136 K (nI p) (fun a b c => oa_fix _ (gu + 1) (a, b, c)) M1 (nI (512 * j)) (nI (9 + w)) = _
            rw [hH0, if_pos b2, q2]
            simp only [oa_bs]
            unfold b_X7_readOne_165
            rw [g1]
            simp only [oa_bs, oa_lt]
            rw [y1]
            simp only [oa_bs]
            refine (r136_br (br_ne q6)).trans ?_
            rw [hWF.2.2.2.2.2.2]
          · show b_X4_takeWiths_4 (nI p) (fun a b c d => oa_fix _ fu (a, b, c, d)) T1 V1 (nI j) (nI i) = _
            rw [hF0, if_neg b1, q1]
            rfl
      · right
        intro fu gu
        have hnw : ∀ w, w < 4 → ¬ y4 = nI (9 + w) := fun w w4 c => hw ⟨w, w4, c⟩
        have hlt : y4 < 9 := by
          rcases r6 with ⟨j2, j13, c, _⟩ | ⟨c, _⟩
          · rw [c]
            by_cases j9 : j2 < 9
            · exact nI_lt (b := 9) j9 (by omega)
            · exact absurd (by rw [c, show 9 + (j2 - 9) = j2 by omega] : y4 = nI (9 + (j2 - 9))) (hnw (j2 - 9) (by omega))
          · rw [c]; decide
        obtain ⟨T2, M2, q1, q2, q3, q4, q5⟩ := both_mis (K := K) (V := V1) r2
        have hS := FS_of q3
        have hWF : WF T M T2 M1 := WF_trans r11 ⟨FC_of hS, hS.2.2.1, hS.2.2.2, FG_refl _, rfl, rfl, rfl⟩
        refine ⟨T2, V1, M1, hWF, ?_, Or.inr (Or.inr ⟨?_, T1, s', e', by rw [k1] at r2; exact r2, fun W => (mis_V T1 W V1).trans q1⟩)⟩
        · show b_X7_readOne_136 K (nI p) (fun a b c => oa_fix _ (gu + 1) (a, b, c)) M1 (nI (512 * j)) y4 = _
          rw [r136_end o9 hlt, r11.2.2.2.2.2.2]
        · show b_X4_takeWiths_4 (nI p) (fun a b c d => oa_fix _ fu (a, b, c, d)) T1 V1 (nI j) (nI i) = _
          unfold b_X4_takeWiths_4
          rw [if_neg (show ¬ (320 : Int32) ≤ nI i from nI_ge (b := 320) hi (by omega)), o5, k1, if_pos (show nI 1 = 1 from rfl), (cl_with (V := V1) r1 r2 r6).2 hnw]
          simp only [oa_bs]
          rw [if_pos trivial, q1]
          rfl
    · right
      intro fu gu
      have hlt : y4 < 9 := by
        rcases r6 with ⟨j2, j13, c, c1, _⟩ | ⟨c, _⟩
        · exact absurd c1 k1
        · rw [c]; decide
      refine ⟨T1, V1, M1, r11, ?_, Or.inl ⟨?_, r12, r13, r5, s', e', k', r2, by omega⟩⟩
      · show b_X7_readOne_136 K (nI p) (fun a b c => oa_fix _ (gu + 1) (a, b, c)) M1 (nI (512 * j)) y4 = _
        rw [r136_end o9 hlt, r11.2.2.2.2.2.2]
      · show b_X4_takeWiths_4 (nI p) (fun a b c d => oa_fix _ fu (a, b, c, d)) T1 V1 (nI j) (nI i) = _
        unfold b_X4_takeWiths_4
        rw [if_neg (show ¬ (320 : Int32) ≤ nI i from nI_ge (b := 320) hi (by omega)), o5, if_neg (show ¬ nI k' = 1 from nI_neq (b := 1) k1 (by omega) (by omega))]
  · rintro ⟨T1, V1, tk, x3⟩ ⟨M1, tl, y4⟩ ⟨s', e', k', j, r1, r2, r3, r4, r5, r6, r7, r8, r9, r10, r11, r12, r13⟩ fu gu
    simp only at r1 r2 r3 r4 r5 r6 r7 r9 r10 r11 r12 r13
    subst r7 r9 r10
    have r2' := r2
    obtain ⟨o1, o2, o3, o4, o5, o6, o7, o8, o9, o10, o11, o12, o13, o14⟩ := r2'
    have k1 : ¬ k' = 1 := fun c => by have := o13 (by omega); omega
    have hlt : y4 < 9 := by
      rcases r6 with ⟨j2, j13, c, c1, _⟩ | ⟨c, _⟩
      · exact absurd c1 k1
      · rw [c]; decide
    refine ⟨T1, V1, M1, r11, ?_, Or.inl ⟨?_, r12, r13, r5, s', e', k', r2, by omega⟩⟩
    · show b_X7_readOne_136 K (nI p) (fun a b c => oa_fix _ (gu + 1) (a, b, c)) M1 (nI (512 * j)) y4 = _
      rw [r136_end o9 hlt, r11.2.2.2.2.2.2]
    · have hb : ∀ kk : oa_I2 → oa_I2 → Int32 → Int32 → Option (Int32 × oa_I2 × oa_I2), b_X4_takeWiths_4 (nI p) kk T1 V1 (nI j) (nI 320) = some (1, T1, V1) := by
        intro kk
        unfold b_X4_takeWiths_4
        rw [if_pos (show (320 : Int32) ≤ nI 320 by decide)]
      exact hb (fun a b c d => l_X4_takeWiths_4 (nI p) fu a b c d)
end WL
