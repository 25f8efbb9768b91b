section RD2
variable {B : oa_I3} {J : oa_J2} {M : oa_I2} {K : oa_J2} {n L : Nat}
/-- read is done: so many came, by this fault -/
theorem rd_done {V : oa_I2} {P' : oa_P} {b : Int32} {x1 x2 x3 x4 c : Int32} (h : Rel B M) (hR : RR (M 2) L) (h0 : RV n L (M 2) (M 1) (B 0)) (hv : RV n L (M 2) P' V) (t : ∀ k, 100 ≤ k → P' k = M 1 k) : ∃ a B' M', b_X6_read_170 J x1 x2 x3 x4 (va_up B 1 V) b c = some (a, B') ∧ b_X7_read_206 K x1 x2 x3 x4 (oa_ms M 0 P' (M 0 9)) b c 0 = some (a, M') ∧ Rel B' M' := by
  unfold b_X6_read_170 b_X7_read_206
  simp only [f_copyOf, oa_bs, oa_lt, if_true]
  refine ⟨_, _, _, rfl, rfl, ?_⟩
  have hr := Rel_main' (w := M 0 9) h hR h0 t (RV_cpy (U := B 0) hv)
  obtain ⟨n', L', g1, g2, g3, g4, g5, g6, g7⟩ := hr
  have hb : ∀ a, a ≠ 1 → a ≠ 6 → va_up (va_up (va_up B 1 V) 0 (oa_cpy (va_up B 1 V 0) (va_up B 1 V 1))) 6 (va_up (va_up (va_up B 1 V) 0 (oa_cpy (va_up B 1 V 0) (va_up B 1 V 1)) 6) 0 (upd (va_up (va_up B 1 V) 0 (oa_cpy (va_up B 1 V 0) (va_up B 1 V 1)) 6 0) 1 b)) a = va_up B 0 (oa_cpy (B 0) V) a := by
    intro a a1 a6
    rw [va_up_n _ _ a6, va_up_n B V (show (0 : Nat) ≠ 1 by omega), va_up_s]
    by_cases a0 : a = 0
    · rw [a0, va_up_s, va_up_s]
    · rw [va_up_n _ _ a0, va_up_n _ _ a1, va_up_n _ _ a0]
  have hb6 : va_up (va_up (va_up B 1 V) 0 (oa_cpy (va_up B 1 V 0) (va_up B 1 V 1))) 6 (va_up (va_up (va_up B 1 V) 0 (oa_cpy (va_up B 1 V 0) (va_up B 1 V 1)) 6) 0 (upd (va_up (va_up B 1 V) 0 (oa_cpy (va_up B 1 V 0) (va_up B 1 V 1)) 6 0) 1 b)) 6 = va_up (B 6) 0 (upd (B 6 0) 1 b) := by
    rw [va_up_s, va_up_n _ _ (show (6 : Nat) ≠ 0 by omega), va_up_n _ _ (show (6 : Nat) ≠ 1 by omega)]
  generalize va_up (va_up (va_up B 1 V) 0 (oa_cpy (va_up B 1 V 0) (va_up B 1 V 1))) 6 (va_up (va_up (va_up B 1 V) 0 (oa_cpy (va_up B 1 V 0) (va_up B 1 V 1)) 6) 0 (upd (va_up (va_up B 1 V) 0 (oa_cpy (va_up B 1 V 0) (va_up B 1 V 1)) 6 0) 1 b)) = B' at hb hb6
  generalize oa_ms M 0 P' (M 0 9) = N at g1 g2 g3 g4 g5 g6 g7
  have hm : ∀ a, a ≠ 0 → va_up N 0 (upd (N 0) 10 b) a = N a := fun a ha => va_up_n _ _ ha
  have h6a : va_up B 0 (oa_cpy (B 0) V) 6 = B 6 := va_up_n _ _ (by omega)
  rw [h6a] at g5
  refine ⟨n', L', ?_, ?_, fun j hj => ?_, ?_, ⟨?_, ?_⟩, fun j hj => ?_, ?_⟩
  · rw [hm 2 (by omega)]; exact g1
  · rw [hm 2 (by omega), hm 1 (by omega), hb 0 (by omega) (by omega)]; exact g2
  · have := g3 j hj
    rw [h6a] at this
    unfold oa_pg at this ⊢
    rw [hm 2 (by omega), hm 1 (by omega), hm 11 (by omega), hb6, va_up_n _ _ (show (1 : Nat) ≠ 0 by omega), hb (3 + j) (by omega) (by omega)]
    exact this
  · rw [hb 5 (by omega) (by omega)]
    obtain ⟨t, t1, t2, t3, t4⟩ := g4
    exact ⟨t, t1, t2, by rw [va_up_s, upd_n _ _ (by omega)]; exact t3, fun k hk => by rw [hm 5 (by omega)]; exact t4 k hk⟩
  · rw [hb6, va_up_s, upd_n _ _ (by omega), va_up_s, upd_n _ _ (by omega)]; exact g5.1
  · rw [hb6, va_up_s, upd_s, va_up_s, upd_s]
  · rw [hb (7 + j) (by omega) (by omega)]
    unfold RS
    rw [hm 12 (by omega), hm 13 (by omega), hm 14 (by omega)]
    exact g6 j hj
  · unfold RC
    rw [hm 6 (by omega), hm 7 (by omega)]; exact g7
theorem rd_even (i : Nat) (h : i < 100) : nI (2 * i) - nI (2 * i) / 2 * 2 = 0 := by
  have : ∀ i, i < 100 → nI (2 * i) - nI (2 * i) / 2 * 2 = 0 := by decide +kernel
  exact this i h
theorem rd_odd (i : Nat) (h : i < 100) : nI (2 * i + 1) - nI (2 * i + 1) / 2 * 2 = 1 := by
  have : ∀ i, i < 100 → nI (2 * i + 1) - nI (2 * i + 1) / 2 * 2 = 1 := by decide +kernel
  exact this i h
theorem lN_2 (f i : Nat) (hf : f < 2 ^ 31) (hi : i < 100) : (nI f).toInt64 + 2 * (nI i).toInt64 = lN (f + 2 * i) := by
  rw [nI_l hf, nI_l (by omega), show (2 : Int64) = lN 2 from rfl, lN_mul, lN_add]
theorem rd_main {k l m : Nat} {x3 s0 : Int32} (h : Rel B M) (hk : k < 4) (hl : l ≤ 2) (hm : m ≤ 12) (hs0 : m = 0 ∧ s0 = 0 ∨ 0 < m ∧ f_X3_faultAs (B (7 + k)) (nI l) = some s0) : ∃ a B' M', rdl (7 + k) J (nI k) (nI l) x3 (nI m) oa_fu (va_up B 1 (oa_cpy (B 1) (B 0))) s0 0 0 = some (a, B') ∧ l_X7_read_51 K (nI k) (nI l) x3 (nI m) oa_fu M 0 0 0 0 = some (a, M') ∧ Rel B' M' := by
  have h0 := h
  obtain ⟨n, L, hR, hV, hI, hT, hF, hS, hC⟩ := h
  have hV0 := hV
  obtain ⟨cv, hp, h99, tb⟩ := hV
  have h6 := cv.1.1
  have hVt : RV n L (M 2) (M 1) (oa_cpy (B 1) (B 0)) := RV_cpy hV0
  have hMid : M = oa_ms M 0 (M 1) (M 0 9) := oa_ms_M.symm
  have stepF : ∀ f (s : oa_I3 × Int32 × Int32 × Int32), oa_fix (fun k' => oa_u fun (B : oa_I3) => oa_u fun (x6 : Int32) => oa_u fun (x7 : Int32) (x8 : Int32) => rdb (7 + k) J (nI k) (nI l) x3 (nI m) (fun B x6 x7 x8 => k' (B, x6, x7, x8)) B x6 x7 x8) (f + 1) s = rdb (7 + k) J (nI k) (nI l) x3 (nI m) (fun B x6 x7 x8 => oa_fix (fun k' => oa_u fun (B : oa_I3) => oa_u fun (x6 : Int32) => oa_u fun (x7 : Int32) (x8 : Int32) => rdb (7 + k) J (nI k) (nI l) x3 (nI m) (fun B x6 x7 x8 => k' (B, x6, x7, x8)) B x6 x7 x8) f (B, x6, x7, x8)) s.1 s.2.1 s.2.2.1 s.2.2.2 := fun _ _ => rfl
  have stepH : ∀ f (s : oa_I2 × Int32 × Int32 × Int32 × Int32), oa_fix (fun k' => oa_u fun (M : oa_I2) => oa_u fun (x5 : Int32) => oa_u fun (x6 : Int32) => oa_u fun (x7 : Int32) (x8 : Int32) => b_X7_read_51 K (nI k) (nI l) x3 (nI m) (fun M x5 x6 x7 x8 => k' (M, x5, x6, x7, x8)) M x5 x6 x7 x8) (f + 1) s = b_X7_read_51 K (nI k) (nI l) x3 (nI m) (fun M x5 x6 x7 x8 => oa_fix (fun k' => oa_u fun (M : oa_I2) => oa_u fun (x5 : Int32) => oa_u fun (x6 : Int32) => oa_u fun (x7 : Int32) (x8 : Int32) => b_X7_read_51 K (nI k) (nI l) x3 (nI m) (fun M x5 x6 x7 x8 => k' (M, x5, x6, x7, x8)) M x5 x6 x7 x8) f (M, x5, x6, x7, x8)) s.1 s.2.1 s.2.2.1 s.2.2.2.1 s.2.2.2.2 := fun _ _ => rfl
  obtain ⟨F, hFf⟩ : ∃ F, oa_fu = F + 3 := ⟨997, by rw [oa_fu_eq]⟩
  have e2m : (2 : Int32) * nI m = nI (2 * m) := by rw [show (2 : Int32) = nI 2 from rfl, pk_mul]
  -- the class's loop ends at once where there is a fault, or nothing to read
  have quick : ∀ (b : Int32), (¬ b = 0 ∨ m = 0) → s0 = b → l_X7_read_51 K (nI k) (nI l) x3 (nI m) oa_fu M 0 0 0 0 = b_X7_read_206 K (nI k) (nI l) x3 (nI m) M b 0 0 → ∃ a B' M', rdl (7 + k) J (nI k) (nI l) x3 (nI m) oa_fu (va_up B 1 (oa_cpy (B 1) (B 0))) s0 0 0 = some (a, B') ∧ l_X7_read_51 K (nI k) (nI l) x3 (nI m) oa_fu M 0 0 0 0 = some (a, M') ∧ Rel B' M' := by
    intro b hb hs hm'
    have e1 : rdl (7 + k) J (nI k) (nI l) x3 (nI m) oa_fu (va_up B 1 (oa_cpy (B 1) (B 0))) s0 0 0 = b_X6_read_170 J (nI k) (nI l) x3 (nI m) (va_up B 1 (oa_cpy (B 1) (B 0))) b 0 := by
      unfold rdl
      rw [hFf, stepF, hs]
      unfold rdb
      rcases hb with hb | hb
      · dsimp only
        rw [if_neg hb, ite_self]
      · subst hb
        dsimp only
        rw [if_pos (show nI 0 ≤ 0 by decide)]
    rw [e1, hm']
    have := rd_done (J := J) (K := K) (x1 := nI k) (x2 := nI l) (x3 := x3) (x4 := nI m) (b := b) (c := 0) h0 hR hV0 hVt (fun _ _ => rfl)
    rw [oa_ms_M] at this
    exact this
  rcases hs0 with ⟨rfl, rfl⟩ | ⟨hm0, hs0⟩
  · refine quick 0 (Or.inr rfl) rfl ?_
    unfold l_X7_read_51
    rw [hFf, stepH]
    unfold b_X7_read_51
    dsimp only
    rw [e2m, if_pos (show nI (2 * 0) ≤ 0 by decide)]
  have hm0' : ¬ nI (2 * m) ≤ 0 := nI_nle (by omega) (by omega)
  have hge1 : ∀ b : Int32, ¬ b = 0 → l_X7_read_51 K (nI k) (nI l) x3 (nI m) oa_fu M 0 0 0 0 = b_X7_read_126 K (nI k) (nI l) x3 (nI m) (fun M x5 x6 x7 x8 => oa_fix (fun k' => oa_u fun (M : oa_I2) => oa_u fun (x5 : Int32) => oa_u fun (x6 : Int32) => oa_u fun (x7 : Int32) (x8 : Int32) => b_X7_read_51 K (nI k) (nI l) x3 (nI m) (fun M x5 x6 x7 x8 => k' (M, x5, x6, x7, x8)) M x5 x6 x7 x8) (F + 2) (M, x5, x6, x7, x8)) M 0 0 0 b → l_X7_read_51 K (nI k) (nI l) x3 (nI m) oa_fu M 0 0 0 0 = b_X7_read_206 K (nI k) (nI l) x3 (nI m) M b 0 0 := by
    intro b hb e
    rw [e]
    unfold b_X7_read_126
    rw [if_neg hb]
    dsimp only
    rw [stepH]
    unfold b_X7_read_51
    dsimp only
    rw [if_neg hb, ite_self]
  rcases hS k hk with ⟨s1, s2⟩ | ⟨sz, ln, s1, s2, s3, s4, s5, s6, s7⟩
  · have hs : s0 = 1 := by
      unfold f_X3_faultAs at hs0
      rw [if_pos (show B (7 + k) 1 0 = -4 from s1)] at hs0
      exact (Option.some.inj hs0).symm
    refine quick 1 (Or.inl (by decide)) hs (hge1 1 (by decide) ?_)
    unfold l_X7_read_51
    rw [hFf, stepH, b_X7_read_51]
    dsimp only
    rw [e2m, if_neg hm0', if_pos rfl, if_pos rfl, oa_rd_nI (by omega) (by omega)]
    simp only [oa_bs]
    rw [if_pos (show M 12 k = -4 from s2)]
  have nS : ¬ B (7 + k) 1 0 = -4 := by rw [s3]; exact oa_no (by omega)
  have nM : ¬ M 12 k = -4 := by rw [s6]; exact oa_no (by omega)
  by_cases hln : ln = l
  case neg =>
    have nl : ¬ nI ln = nI l := fun d => hln ((nI_eq (by omega) (by omega)).mp d)
    have hs : s0 = 3 := by
      unfold f_X3_faultAs at hs0
      rw [if_neg nS, s5, if_neg (fun d => nl d.symm)] at hs0
      exact (Option.some.inj hs0).symm
    refine quick 3 (Or.inl (by decide)) hs (hge1 3 (by decide) ?_)
    unfold l_X7_read_51
    rw [hFf, stepH, b_X7_read_51]
    dsimp only
    rw [e2m, if_neg hm0', if_pos rfl, if_pos rfl, oa_rd_nI (by omega) (by omega)]
    simp only [oa_bs]
    rw [if_neg nM, s6, if_neg nl]
  subst hln
  have hs : s0 = 0 := by
    unfold f_X3_faultAs at hs0
    rw [if_neg nS, s5, if_pos rfl] at hs0
    exact (Option.some.inj hs0).symm
  subst hs
  have nm0 : ¬ nI m ≤ 0 := nI_nle (by omega) (by omega)
  have n20 : ¬ (2 : Int32) = 0 := by decide
  by_cases hneg : x3 < 0
  · have hwf : oa_wi x3 0 (nI sz - 1) = false := by
      unfold oa_wi
      rw [decide_eq_false (Int32.not_le.mpr hneg)]; rfl
    have hz64 : x3.toInt64 + 2 * (0 : Int32).toInt64 = x3.toInt64 := by
      rw [show (2 : Int64) * (0 : Int32).toInt64 = 0 from by decide, Int64.add_zero]
    have hz65 : x3.toInt64 + (0 : Int32).toInt64 = x3.toInt64 := by
      rw [show (0 : Int32).toInt64 = 0 from by decide, Int64.add_zero]
    have e1 : rdl (7 + k) J (nI k) (nI ln) x3 (nI m) oa_fu (va_up B 1 (oa_cpy (B 1) (B 0))) 0 0 0 = b_X6_read_170 J (nI k) (nI ln) x3 (nI m) (va_up B 1 (oa_cpy (B 1) (B 0))) 2 0 := by
      unfold rdl
      rw [hFf, stepF]
      rw [rdb]
      dsimp only
      rw [if_neg nm0, if_pos rfl, va_up_n B _ (show 7 + k ≠ 1 by omega)]
      simp only [oa_lt]
      rw [hz64, f_hasCell s3 (by omega), hwf]
      simp only [oa_bs, oa_bi_if0, if_true]
      rw [if_neg (by decide), stepF]
      rw [rdb]
      dsimp only
      rw [if_neg n20, ite_self]
    have e2 := hge1 2 n20 (by
      unfold l_X7_read_51
      rw [hFf, stepH, b_X7_read_51]
      dsimp only
      rw [e2m, if_neg hm0', if_pos rfl, if_pos rfl, oa_rd_nI (by omega) (by omega), oa_rd_nI (by omega) (by omega)]
      simp only [oa_bs]
      rw [if_neg nM, s6, if_pos rfl, s4, hz65, f_in_0v, hwf]
      simp only [oa_bs, oa_bi_if0, if_true]
      rw [if_neg (by decide)])
    rw [e1, e2]
    have := rd_done (J := J) (K := K) (x1 := nI k) (x2 := nI ln) (x3 := x3) (x4 := nI m) (b := 2) (c := 0) h0 hR hV0 hVt (fun _ _ => rfl)
    rw [oa_ms_M] at this
    exact this
  obtain ⟨f0, hf0, rfl⟩ := nI_of hneg
  unfold rdl l_X7_read_51
  refine oa_for12 (fun o o' => ∃ a B' M', o = some (a, B') ∧ o' = some (a, M') ∧ Rel B' M') (fun i s t => ∃ V, ∃ pr : Nat → Nat × Nat, s = (va_up B 1 V, 0, nI i, nI i) ∧ t = (oa_ms M 0 (ups (fun j => 48 + (7 * (pr j).1 + (pr j).2)) i (M 1)) (M 0 9), 0, nI i, 0, nI (2 * i)) ∧ RV n L (M 2) (ups (fun j => 48 + (7 * (pr j).1 + (pr j).2)) i (M 1)) V ∧ (i = 0 ∨ f0 + 2 * i ≤ 40) ∧ (∀ j, j < i → (pr j).1 < n ∧ ((pr j).2 < n ∨ (pr j).2 = 6) ∧ (pr j).2 ≠ (pr j).1 ∧ M 1 (48 + (7 * (pr j).1 + (pr j).2)) = 0 ∧ M 14 (40 * k + (f0 + 2 * j)) = nI (pr j).1 ∧ M 14 (40 * k + (f0 + 2 * j + 1)) = nI (pr j).2) ∧ (∀ j l, j < l → l < i → 48 + (7 * (pr j).1 + (pr j).2) ≠ 48 + (7 * (pr l).1 + (pr l).2))) m ⟨_, fun _ => (0, 0), rfl, by rw [show ups (fun j => 48 + (7 * ((fun _ => (0, 0) : Nat → Nat × Nat) j).1 + ((fun _ => (0, 0) : Nat → Nat × Nat) j).2)) 0 (M 1) = M 1 from rfl, oa_ms_M]; rfl, hVt, Or.inl rfl, fun j hj => absurd hj (Nat.not_lt_zero j), fun j l _ hl => absurd hl (Nat.not_lt_zero l)⟩ ?_ ?_ oa_fu oa_fu (by rw [oa_fu_eq]; omega) (by rw [oa_fu_eq]; omega)
  · rintro i hi s t ⟨V, pr, rfl, rfl, hv, hfi, hval, hdis⟩
    have hfar : ∀ q, 100 ≤ q → ups (fun j => 48 + (7 * (pr j).1 + (pr j).2)) i (M 1) q = M 1 q := by
      intro q hq
      rw [ups_at, if_neg]
      intro c
      obtain ⟨j, j1, j2⟩ := exb_iff.mp c
      have := of_decide_eq_true j2
      obtain ⟨w1, w2, _⟩ := hval j j1
      omega
    have nmi : ¬ nI m ≤ nI i := nI_ge hi (by omega)
    have n2i : ¬ nI (2 * m) ≤ nI (2 * i) := nI_ge (by omega) (by omega)
    have n2i1 : ¬ nI (2 * m) ≤ nI (2 * i + 1) := nI_ge (by omega) (by omega)
    have hB7 : ∀ V, va_up B 1 V (7 + k) = B (7 + k) := fun V => va_up_n _ _ (by omega)
    have hodd := rd_odd i (by omega)
    have heven := rd_even i (by omega)
    have hdone := rd_done (J := J) (K := K) (x1 := nI k) (x2 := nI ln) (x3 := nI f0) (x4 := nI m) (b := 2) (c := nI i) h0 hR hV0 hv hfar
    generalize hP : ups (fun j => 48 + (7 * (pr j).1 + (pr j).2)) i (M 1) = P at hv hdone
    -- the model's two steps
    have in1 : (nI f0).toInt64 + (nI (2 * i)).toInt64 = lN (f0 + 2 * i) := by rw [nI_l hf0, nI_l (by omega), lN_add]
    have in2 : (nI f0).toInt64 + (nI (2 * i + 1)).toInt64 = lN (f0 + 2 * i + 1) := by rw [nI_l hf0, nI_l (by omega), lN_add, Nat.add_assoc]
    have cell : ∀ q, oa_ms M 0 P (M 0 9) (12 + q) = M (12 + q) := fun q => oa_ms_k (by omega) (by omega)
    have ex206 : ∀ f, oa_fix (fun k' => oa_u fun (M : oa_I2) => oa_u fun (x5 : Int32) => oa_u fun (x6 : Int32) => oa_u fun (x7 : Int32) (x8 : Int32) => b_X7_read_51 K (nI k) (nI ln) (nI f0) (nI m) (fun M x5 x6 x7 x8 => k' (M, x5, x6, x7, x8)) M x5 x6 x7 x8) (f + 1) (oa_ms M 0 P (M 0 9), 2, nI i, 0, nI (2 * i + 1)) = b_X7_read_206 K (nI k) (nI ln) (nI f0) (nI m) (oa_ms M 0 P (M 0 9)) 2 (nI i) 0 := by
      intro f
      rw [stepH]
      unfold b_X7_read_51
      dsimp only
      rw [if_neg n20, ite_self]
    have ex206b : ∀ f, oa_fix (fun k' => oa_u fun (M : oa_I2) => oa_u fun (x5 : Int32) => oa_u fun (x6 : Int32) => oa_u fun (x7 : Int32) (x8 : Int32) => b_X7_read_51 K (nI k) (nI ln) (nI f0) (nI m) (fun M x5 x6 x7 x8 => k' (M, x5, x6, x7, x8)) M x5 x6 x7 x8) (f + 1) (oa_ms M 0 P (M 0 9), 2, nI i, 0, nI (2 * i + 1 + 1)) = b_X7_read_206 K (nI k) (nI ln) (nI f0) (nI m) (oa_ms M 0 P (M 0 9)) 2 (nI i) 0 := by
      intro f
      rw [stepH]
      unfold b_X7_read_51
      dsimp only
      rw [if_neg n20, ite_self]
    have ex170 : ∀ f, oa_fix (fun k' => oa_u fun (B : oa_I3) => oa_u fun (x6 : Int32) => oa_u fun (x7 : Int32) (x8 : Int32) => rdb (7 + k) J (nI k) (nI ln) (nI f0) (nI m) (fun B x6 x7 x8 => k' (B, x6, x7, x8)) B x6 x7 x8) (f + 1) (va_up B 1 V, 2, nI i, nI i + 1) = b_X6_read_170 J (nI k) (nI ln) (nI f0) (nI m) (va_up B 1 V) 2 (nI i) := by
      intro f
      rw [stepF]
      rw [rdb]
      dsimp only
      rw [if_neg n20, ite_self]
    have h12 : oa_ms M 0 P (M 0 9) 12 = M 12 := cell 0
    have h13 : oa_ms M 0 P (M 0 9) 13 = M 13 := cell 1
    have h14 : oa_ms M 0 P (M 0 9) 14 = M 14 := cell 2
    have firstC : ∀ f, oa_fix (fun k' => oa_u fun (B : oa_I3) => oa_u fun (x6 : Int32) => oa_u fun (x7 : Int32) (x8 : Int32) => rdb (7 + k) J (nI k) (nI ln) (nI f0) (nI m) (fun B x6 x7 x8 => k' (B, x6, x7, x8)) B x6 x7 x8) (f + 1) (va_up B 1 V, 0, nI i, nI i) = rdb (7 + k) J (nI k) (nI ln) (nI f0) (nI m) (fun B x6 x7 x8 => oa_fix (fun k' => oa_u fun (B : oa_I3) => oa_u fun (x6 : Int32) => oa_u fun (x7 : Int32) (x8 : Int32) => rdb (7 + k) J (nI k) (nI ln) (nI f0) (nI m) (fun B x6 x7 x8 => k' (B, x6, x7, x8)) B x6 x7 x8) f (B, x6, x7, x8)) (va_up B 1 V) 0 (nI i) (nI i) := fun _ => rfl
    by_cases c1 : f0 + 2 * i < sz
    case neg =>
      right
      intro f g
      have eC : oa_fix (fun k' => oa_u fun (B : oa_I3) => oa_u fun (x6 : Int32) => oa_u fun (x7 : Int32) (x8 : Int32) => rdb (7 + k) J (nI k) (nI ln) (nI f0) (nI m) (fun B x6 x7 x8 => k' (B, x6, x7, x8)) B x6 x7 x8) (f + 2) (va_up B 1 V, 0, nI i, nI i) = b_X6_read_170 J (nI k) (nI ln) (nI f0) (nI m) (va_up B 1 V) 2 (nI i) := by
        rw [firstC (f + 1)]
        rw [rdb]
        rw [if_neg nmi, if_pos rfl, hB7]
        simp only [oa_lt]
        rw [lN_2 f0 i hf0 (by omega), f_hasCellN s3 s1 (by omega), decide_eq_false c1]
        simp only [oa_bs, oa_bi_if0, if_true]
        rw [if_neg (by decide)]
        exact ex170 f
      have eM : oa_fix (fun k' => oa_u fun (M : oa_I2) => oa_u fun (x5 : Int32) => oa_u fun (x6 : Int32) => oa_u fun (x7 : Int32) (x8 : Int32) => b_X7_read_51 K (nI k) (nI ln) (nI f0) (nI m) (fun M x5 x6 x7 x8 => k' (M, x5, x6, x7, x8)) M x5 x6 x7 x8) (g + 3) (oa_ms M 0 P (M 0 9), 0, nI i, 0, nI (2 * i)) = b_X7_read_206 K (nI k) (nI ln) (nI f0) (nI m) (oa_ms M 0 P (M 0 9)) 2 (nI i) 0 := by
        rw [stepH, b_X7_read_51]
        dsimp only
        rw [e2m, if_neg n2i, if_pos rfl, if_pos rfl, h12, h13, oa_rd_nI (by omega) (by omega), oa_rd_nI (by omega) (by omega)]
        simp only [oa_bs]
        rw [if_neg nM, s6, if_pos rfl, s4, in1, f_inN s1 (by omega), decide_eq_false c1]
        simp only [oa_bs, oa_bi_if0, if_true]
        rw [if_neg (by decide), b_X7_read_126, if_neg n20, nI_1]
        exact ex206 (g + 1)
      rw [eC, eM]
      exact hdone
    -- the first cell is there: the model's first step
    have st1 : ∀ g, oa_fix (fun k' => oa_u fun (M : oa_I2) => oa_u fun (x5 : Int32) => oa_u fun (x6 : Int32) => oa_u fun (x7 : Int32) (x8 : Int32) => b_X7_read_51 K (nI k) (nI ln) (nI f0) (nI m) (fun M x5 x6 x7 x8 => k' (M, x5, x6, x7, x8)) M x5 x6 x7 x8) (g + 1) (oa_ms M 0 P (M 0 9), 0, nI i, 0, nI (2 * i)) = oa_fix (fun k' => oa_u fun (M : oa_I2) => oa_u fun (x5 : Int32) => oa_u fun (x6 : Int32) => oa_u fun (x7 : Int32) (x8 : Int32) => b_X7_read_51 K (nI k) (nI ln) (nI f0) (nI m) (fun M x5 x6 x7 x8 => k' (M, x5, x6, x7, x8)) M x5 x6 x7 x8) g (oa_ms M 0 P (M 0 9), 0, nI i, 0, nI (2 * i + 1)) := by
      intro g
      rw [stepH, b_X7_read_51]
      dsimp only
      rw [e2m, if_neg n2i, if_pos rfl, if_pos rfl, h12, h13, oa_rd_nI (by omega) (by omega), oa_rd_nI (by omega) (by omega)]
      simp only [oa_bs]
      rw [if_neg nM, s6, if_pos rfl, s4, in1, f_inN s1 (by omega), decide_eq_true c1]
      simp only [oa_bs, oa_bi_if0, if_true]
      rw [b_X7_read_126, if_pos rfl, heven, if_neg (by decide), nI_1]
    by_cases c2 : f0 + 2 * i + 1 < sz
    case neg =>
      right
      intro f g
      have eC : oa_fix (fun k' => oa_u fun (B : oa_I3) => oa_u fun (x6 : Int32) => oa_u fun (x7 : Int32) (x8 : Int32) => rdb (7 + k) J (nI k) (nI ln) (nI f0) (nI m) (fun B x6 x7 x8 => k' (B, x6, x7, x8)) B x6 x7 x8) (f + 2) (va_up B 1 V, 0, nI i, nI i) = b_X6_read_170 J (nI k) (nI ln) (nI f0) (nI m) (va_up B 1 V) 2 (nI i) := by
        rw [firstC (f + 1)]
        rw [rdb]
        rw [if_neg nmi, if_pos rfl, hB7]
        simp only [oa_lt]
        rw [lN_2 f0 i hf0 (by omega), f_hasCellN s3 s1 (by omega), decide_eq_true c1, lN_1, f_hasCellN s3 s1 (by omega), decide_eq_false c2]
        simp only [oa_bs, oa_bi_if0, if_true]
        rw [if_neg (by decide)]
        exact ex170 f
      have eM : oa_fix (fun k' => oa_u fun (M : oa_I2) => oa_u fun (x5 : Int32) => oa_u fun (x6 : Int32) => oa_u fun (x7 : Int32) (x8 : Int32) => b_X7_read_51 K (nI k) (nI ln) (nI f0) (nI m) (fun M x5 x6 x7 x8 => k' (M, x5, x6, x7, x8)) M x5 x6 x7 x8) (g + 3) (oa_ms M 0 P (M 0 9), 0, nI i, 0, nI (2 * i)) = b_X7_read_206 K (nI k) (nI ln) (nI f0) (nI m) (oa_ms M 0 P (M 0 9)) 2 (nI i) 0 := by
        rw [st1 (g + 2), stepH, b_X7_read_51]
        dsimp only
        rw [e2m, if_neg n2i1, if_pos rfl, if_pos rfl, h12, h13, oa_rd_nI (by omega) (by omega), oa_rd_nI (by omega) (by omega)]
        simp only [oa_bs]
        rw [if_neg nM, s6, if_pos rfl, s4, in2, f_inN s1 (by omega), decide_eq_false c2]
        simp only [oa_bs, oa_bi_if0, if_true]
        rw [if_neg (by decide), b_X7_read_126, if_neg n20, nI_1]
        exact ex206b g
      rw [eC, eM]
      exact hdone
    have hc1 : B (7 + k) 0 (f0 + 2 * i) = M 14 (40 * k + (f0 + 2 * i)) := s7 _ (by omega)
    have hc2 : B (7 + k) 0 (f0 + 2 * i + 1) = M 14 (40 * k + (f0 + 2 * i + 1)) := s7 _ (by omega)
    obtain ⟨a, V', P', e1, e2, e3, e4⟩ := c_begin (M := oa_ms M 0 P (M 0 9)) (K := K) (V := V) (n := n) (L := L) hR hv (M 14 (40 * k + (f0 + 2 * i))) (M 14 (40 * k + (f0 + 2 * i + 1)))
    rw [oa_ms_ms, oa_ms_09] at e2
    rw [oa_ms0] at e4
    have e3 : RV n L (M 2) P' V' := e3
    have ix1 : (40 : Int32) * nI k + nI f0 + nI (2 * i + 1) = nI (40 * k + (f0 + 2 * i) + 1) := by
      rw [show (40 : Int32) = nI 40 from rfl, pk_mul, nI_add, nI_add]
      congr 1
      omega
    have st2 : ∀ g, oa_fix (fun k' => oa_u fun (M : oa_I2) => oa_u fun (x5 : Int32) => oa_u fun (x6 : Int32) => oa_u fun (x7 : Int32) (x8 : Int32) => b_X7_read_51 K (nI k) (nI ln) (nI f0) (nI m) (fun M x5 x6 x7 x8 => k' (M, x5, x6, x7, x8)) M x5 x6 x7 x8) (g + 1) (oa_ms M 0 P (M 0 9), 0, nI i, 0, nI (2 * i + 1)) = if 0 ≤ a then oa_fix (fun k' => oa_u fun (M : oa_I2) => oa_u fun (x5 : Int32) => oa_u fun (x6 : Int32) => oa_u fun (x7 : Int32) (x8 : Int32) => b_X7_read_51 K (nI k) (nI ln) (nI f0) (nI m) (fun M x5 x6 x7 x8 => k' (M, x5, x6, x7, x8)) M x5 x6 x7 x8) g (oa_ms M 0 P' (M 0 9), 0, nI (i + 1), 0, nI (2 * i + 1 + 1)) else oa_fix (fun k' => oa_u fun (M : oa_I2) => oa_u fun (x5 : Int32) => oa_u fun (x6 : Int32) => oa_u fun (x7 : Int32) (x8 : Int32) => b_X7_read_51 K (nI k) (nI ln) (nI f0) (nI m) (fun M x5 x6 x7 x8 => k' (M, x5, x6, x7, x8)) M x5 x6 x7 x8) g (oa_ms M 0 P' (M 0 9), 0, nI i, 1, nI (2 * i + 1 + 1)) := by
      intro g
      rw [stepH, b_X7_read_51]
      dsimp only
      rw [e2m, if_neg n2i1, if_pos rfl, if_pos rfl, h12, h13, oa_rd_nI (by omega) (by omega), oa_rd_nI (by omega) (by omega)]
      simp only [oa_bs]
      rw [if_neg nM, s6, if_pos rfl, s4, in2, f_inN s1 (by omega), decide_eq_true c2]
      simp only [oa_bs, oa_bi_if0, if_true]
      rw [b_X7_read_126, if_pos rfl, hodd, if_pos rfl, h14, ix1, nI_pred, oa_rd_nI (by omega) (by omega), oa_rd_nI (by omega) (by omega), show 40 * k + (f0 + 2 * i) + 1 = 40 * k + (f0 + 2 * i + 1) by omega]
      simp only [oa_bs]
      rw [e2]
      simp only [oa_bs, oa_ut]
      by_cases ha : 0 ≤ a
      · rw [if_pos ha, if_pos ha, b_X7_read_183, if_pos rfl]
        simp only [oa_lt, nI_1]
      · rw [if_neg ha, if_neg ha, b_X7_read_183, if_neg (by decide)]
        simp only [oa_lt, nI_1, Int32.add_zero]
    have stC : ∀ f, oa_fix (fun k' => oa_u fun (B : oa_I3) => oa_u fun (x6 : Int32) => oa_u fun (x7 : Int32) (x8 : Int32) => rdb (7 + k) J (nI k) (nI ln) (nI f0) (nI m) (fun B x6 x7 x8 => k' (B, x6, x7, x8)) B x6 x7 x8) (f + 1) (va_up B 1 V, 0, nI i, nI i) = if 0 ≤ a then oa_fix (fun k' => oa_u fun (B : oa_I3) => oa_u fun (x6 : Int32) => oa_u fun (x7 : Int32) (x8 : Int32) => rdb (7 + k) J (nI k) (nI ln) (nI f0) (nI m) (fun B x6 x7 x8 => k' (B, x6, x7, x8)) B x6 x7 x8) f (va_up B 1 V', 0, nI (i + 1), nI (i + 1)) else some (-20 - nI i, va_up B 1 V') := by
      intro f
      rw [firstC f, rdb, if_neg nmi, if_pos rfl, hB7]
      simp only [oa_lt]
      rw [lN_2 f0 i hf0 (by omega), f_hasCellN s3 s1 (by omega), decide_eq_true c1, lN_1, f_hasCellN s3 s1 (by omega), decide_eq_true c2, lN_i, nI_1 (f0 + 2 * i), oa_rd_nI (by omega) (by omega), oa_rd_nI (by omega) (by omega), hc1, hc2]
      simp only [oa_bs, oa_bi_if0, if_true]
      rw [va_up_s, e1]
      simp only [oa_bs, oa_ut, nI_1, oa_up2]
    rcases e4 with ⟨ha, rfl, rfl⟩ | ⟨r, p, rx, ry, hr, hp', hne, hz, hP', hac⟩
    · right
      intro f g
      have hna : ¬ 0 ≤ a := by rcases ha with e | e | e <;> rw [e] <;> decide
      have hund := md_undo (M := M) (K := K) (x2 := nI ln) (x4 := nI m) (x3 := nI f0) (k := k) (f0 := f0) (i := i) (R := M 2) (P := M 1) pr h6 hk (by omega) rfl h99 hval hdis
      rw [hP] at hund
      have eM : oa_fix (fun k' => oa_u fun (M : oa_I2) => oa_u fun (x5 : Int32) => oa_u fun (x6 : Int32) => oa_u fun (x7 : Int32) (x8 : Int32) => b_X7_read_51 K (nI k) (nI ln) (nI f0) (nI m) (fun M x5 x6 x7 x8 => k' (M, x5, x6, x7, x8)) M x5 x6 x7 x8) (g + 3) (oa_ms M 0 P' (M 0 9), 0, nI i, 0, nI (2 * i)) = some (-20 - nI i, oa_ms M 0 (M 1) (M 0 9)) := by
        rw [st1 (g + 2), st2 (g + 1), if_neg hna, stepH, b_X7_read_51]
        dsimp only
        rw [if_pos rfl, if_neg (show ¬ (1 : Int32) = 0 by decide), ite_self, b_X7_read_206, if_neg (show ¬ (1 : Int32) = 0 by decide)]
        exact hund
      rw [stC (f + 1), if_neg hna, eM, oa_ms_M]
      refine ⟨_, _, _, rfl, rfl, ?_⟩
      exact Rel_step h0 ⟨rfl, rfl, rfl, rfl, rfl, rfl, rfl, rfl, rfl, rfl, rfl⟩ (fun _ _ _ => rfl) (fun a h1 h2 => va_up_n _ _ (by omega)) (fun n' L' _ g => by rw [va_up_n _ _ (by omega)]; exact g)
    · left
      have hap : 0 ≤ a := by
        rw [hac, oa_cn_nI]
        exact nI_pos' (by have := oa_cN_le (an P' r) 7; omega)
      rw [← hP, ups_at] at hz
      have hex : exb (fun j => decide (48 + (7 * (pr j).1 + (pr j).2) = 48 + (7 * r + p))) i = false := by
        cases c : exb (fun j => decide (48 + (7 * (pr j).1 + (pr j).2) = 48 + (7 * r + p))) i
        · rfl
        · rw [c, if_pos rfl] at hz
          exact absurd hz (by decide)
      rw [hex, if_neg (by decide)] at hz
      have hnd : ∀ j, j < i → 48 + (7 * (pr j).1 + (pr j).2) ≠ 48 + (7 * r + p) := fun j hj => of_decide_eq_false (exb_false.mp hex j hj)
      have hups : ups (fun j => 48 + (7 * (if j = i then (r, p) else pr j).1 + (if j = i then (r, p) else pr j).2)) (i + 1) (M 1) = P' := by
        show upd (ups (fun j => 48 + (7 * (if j = i then (r, p) else pr j).1 + (if j = i then (r, p) else pr j).2)) i (M 1)) (48 + (7 * (if i = i then (r, p) else pr i).1 + (if i = i then (r, p) else pr i).2)) 1 = P'
        rw [if_pos rfl, hP', ← hP]
        congr 1
        unfold ups
        refine it_cong (fun j hj x => ?_) (M 1)
        dsimp only
        rw [if_neg (by omega)]
      refine ⟨(va_up B 1 V', 0, nI (i + 1), nI (i + 1)), (oa_ms M 0 P' (M 0 9), 0, nI (i + 1), 0, nI (2 * (i + 1))), ⟨V', fun j => if j = i then (r, p) else pr j, rfl, by rw [hups], by rw [hups]; exact e3, Or.inr (by omega), fun j hj => ?_, fun j l hjl hl => ?_⟩, fun f => by rw [stC f, if_pos hap], fun f => by rw [st1 (f + 1), st2 f, if_pos hap]; rfl⟩
      · by_cases e : j = i
        · subst e
          simp only [if_true]
          exact ⟨hr, hp', hne, hz, rx, ry⟩
        · simp only [if_neg e]
          exact hval j (by omega)
      · by_cases e : l = i
        · subst e
          simp only [if_true, if_neg (show ¬ j = l by omega)]
          exact hnd j hjl
        · simp only [if_neg e, if_neg (show ¬ j = i by omega)]
          exact hdis j l hjl (by omega)
  · rintro s t ⟨V, pr, rfl, rfl, hv, hfi, hval, hdis⟩ f g
    have hfar : ∀ q, 100 ≤ q → ups (fun j => 48 + (7 * (pr j).1 + (pr j).2)) m (M 1) q = M 1 q := by
      intro q hq
      rw [ups_at, if_neg]
      intro c
      obtain ⟨j, j1, j2⟩ := exb_iff.mp c
      have := of_decide_eq_true j2
      obtain ⟨w1, w2, _⟩ := hval j j1
      omega
    have hdone := rd_done (J := J) (K := K) (x1 := nI k) (x2 := nI ln) (x3 := nI f0) (x4 := nI m) (b := 0) (c := nI m) h0 hR hV0 hv hfar
    rw [stepF, stepH]
    rw [rdb, b_X7_read_51]
    dsimp only
    rw [e2m, if_pos (nI_le (Nat.le_refl m) (by omega)), if_pos (nI_le (Nat.le_refl _) (by omega))]
    exact hdone
theorem rd42 (J : oa_J2) (x1 x2 x3 x4 : Int32) (N : Nat) (B : oa_I3) (x6 x7 x8 : Int32) : l_X6_read_73_42 J x1 x2 x3 x4 N B x6 x7 x8 = rdl 7 J x1 x2 x3 x4 N B x6 x7 x8 := rfl
theorem rd44 (J : oa_J2) (x1 x2 x3 x4 : Int32) (N : Nat) (B : oa_I3) (x6 x7 x8 : Int32) : l_X6_read_73_44 J x1 x2 x3 x4 N B x6 x7 x8 = rdl 8 J x1 x2 x3 x4 N B x6 x7 x8 := rfl
theorem rd46 (J : oa_J2) (x1 x2 x3 x4 : Int32) (N : Nat) (B : oa_I3) (x6 x7 x8 : Int32) : l_X6_read_73_46 J x1 x2 x3 x4 N B x6 x7 x8 = rdl 9 J x1 x2 x3 x4 N B x6 x7 x8 := rfl
theorem rd48 (J : oa_J2) (x1 x2 x3 x4 : Int32) (N : Nat) (B : oa_I3) (x6 x7 x8 : Int32) : l_X6_read_73_48 J x1 x2 x3 x4 N B x6 x7 x8 = rdl 10 J x1 x2 x3 x4 N B x6 x7 x8 := rfl
theorem c_read (h : Rel B M) (x y z w : Int32) : ∃ a B' M', f_X6_read B J x y z w = some (a, B') ∧ f_X7_read M K x y z w = some (a, M') ∧ Rel B' M' := by
  have h0 := h
  unfold f_X6_read f_X7_read
  simp only [f_within, oa_bs, oa_bi_if0, show f_X7_in x.toInt64 0 3 = _ from f_in x 0 3, show f_X7_in y.toInt64 0 2 = _ from f_in y 0 2, show f_X7_in w.toInt64 0 12 = _ from f_in w 0 12]
  cases hx : oa_wi x 0 3
  · exact ⟨_, _, _, rfl, rfl, h0⟩
  obtain ⟨k, _, k2, rfl⟩ := oa_wi_t (a := 0) (b := 3) (by omega) hx (by omega)
  cases hy : oa_wi y 0 2
  · exact ⟨_, _, _, rfl, rfl, h0⟩
  obtain ⟨l, _, l2, rfl⟩ := oa_wi_t (a := 0) (b := 2) (by omega) hy (by omega)
  cases hw : oa_wi w 0 12
  · exact ⟨_, _, _, rfl, rfl, h0⟩
  obtain ⟨m, _, m2, rfl⟩ := oa_wi_t (a := 0) (b := 12) (by omega) hw (by omega)
  simp only [if_true]
  have hfault : ∃ s0, f_X3_faultAs (B (7 + k)) (nI l) = some s0 := by
    unfold f_X3_faultAs
    split
    · exact ⟨_, rfl⟩
    · split
      · exact ⟨_, rfl⟩
      · exact ⟨_, rfl⟩
  obtain ⟨s0, hs0⟩ := hfault
  have key : ∀ s, (m = 0 ∧ s = 0 ∨ 0 < m ∧ s = s0) → ∃ a B' M', rdl (7 + k) J (nI k) (nI l) z (nI m) oa_fu (va_up B 1 (oa_cpy (B 1) (B 0))) s 0 0 = some (a, B') ∧ l_X7_read_51 K (nI k) (nI l) z (nI m) oa_fu M 0 0 0 0 = some (a, M') ∧ Rel B' M' := by
    intro s hs
    refine rd_main h0 (by omega) l2 m2 ?_
    rcases hs with hs | ⟨h1, h2⟩
    · exact Or.inl hs
    · exact Or.inr ⟨h1, by rw [h2]; exact hs0⟩
  by_cases e0 : k = 0
  · subst e0
    rw [if_pos (show nI 0 = 0 from rfl)]
    by_cases em : m = 0
    · subst em
      rw [if_pos (show nI 0 = 0 from rfl), b_X6_read_54_42, f_copyOf]
      simp only [oa_bs, oa_lt]
      rw [rd42]
      exact key 0 (Or.inl ⟨rfl, rfl⟩)
    · rw [if_neg (nI_ne0 (by omega) (by omega)), show B 7 = B (7 + 0) from rfl, hs0]
      simp only [oa_bs]
      rw [b_X6_read_54_42, f_copyOf]
      simp only [oa_bs, oa_lt]
      rw [rd42]
      exact key s0 (Or.inr ⟨by omega, rfl⟩)
  rw [if_neg (nI_ne0 (by omega) (by omega))]
  by_cases e1 : k = 1
  · subst e1
    rw [if_pos (show nI 1 = 1 from rfl)]
    by_cases em : m = 0
    · subst em
      rw [if_pos (show nI 0 = 0 from rfl), b_X6_read_54_44, f_copyOf]
      simp only [oa_bs, oa_lt]
      rw [rd44]
      exact key 0 (Or.inl ⟨rfl, rfl⟩)
    · rw [if_neg (nI_ne0 (by omega) (by omega)), show B 8 = B (7 + 1) from rfl, hs0]
      simp only [oa_bs]
      rw [b_X6_read_54_44, f_copyOf]
      simp only [oa_bs, oa_lt]
      rw [rd44]
      exact key s0 (Or.inr ⟨by omega, rfl⟩)
  have n1 : ¬ nI k = 1 := fun c => e1 ((nI_eq (b := 1) (by omega) (by omega)).mp c)
  rw [if_neg n1]
  by_cases e2 : k = 2
  · subst e2
    rw [if_pos (show nI 2 = 2 from rfl)]
    by_cases em : m = 0
    · subst em
      rw [if_pos (show nI 0 = 0 from rfl), b_X6_read_54_46, f_copyOf]
      simp only [oa_bs, oa_lt]
      rw [rd46]
      exact key 0 (Or.inl ⟨rfl, rfl⟩)
    · rw [if_neg (nI_ne0 (by omega) (by omega)), show B 9 = B (7 + 2) from rfl, hs0]
      simp only [oa_bs]
      rw [b_X6_read_54_46, f_copyOf]
      simp only [oa_bs, oa_lt]
      rw [rd46]
      exact key s0 (Or.inr ⟨by omega, rfl⟩)
  have n2 : ¬ nI k = 2 := fun c => e2 ((nI_eq (b := 2) (by omega) (by omega)).mp c)
  rw [if_neg n2]
  obtain rfl : k = 3 := by omega
  rw [if_pos (show nI 3 = 3 from rfl)]
  by_cases em : m = 0
  · subst em
    rw [if_pos (show nI 0 = 0 from rfl), b_X6_read_54_48, f_copyOf]
    simp only [oa_bs, oa_lt]
    rw [rd48]
    exact key 0 (Or.inl ⟨rfl, rfl⟩)
  · rw [if_neg (nI_ne0 (by omega) (by omega)), show B 10 = B (7 + 3) from rfl, hs0]
    simp only [oa_bs]
    rw [b_X6_read_54_48, f_copyOf]
    simp only [oa_bs, oa_lt]
    rw [rd48]
    exact key s0 (Or.inr ⟨by omega, rfl⟩)
end RD2
