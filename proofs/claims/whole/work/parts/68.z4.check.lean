/-! what is looked at behind the text: the class -/
theorem af_iff (P : oa_P) (n p : Nat) : ∀ q, af P n p q = true ↔ ∀ i, i < q → an P p i = true → i ≠ p ∧ i < n
  | 0 => ⟨fun _ i hi => absurd hi (by omega), fun _ => rfl⟩
  | q + 1 => by
    rw [af_succ, Bool.and_eq_true, af_iff P n p q]
    constructor
    · rintro ⟨h1, h2⟩ i hi ha
      by_cases e : i = q
      · subst e
        rw [ha, Bool.not_true, Bool.false_or, Bool.and_eq_true] at h2
        refine ⟨fun c => ?_, of_decide_eq_true h2.2⟩
        have := h2.1
        rw [decide_eq_true c] at this
        exact absurd this (by decide)
      · exact h1 i (by omega) ha
    · intro h
      refine ⟨fun i hi ha => h i (by omega) ha, ?_⟩
      cases ha : an P p q
      · rfl
      · obtain ⟨h1, h2⟩ := h q (by omega) ha
        rw [decide_eq_false h1, decide_eq_true h2]; rfl
theorem ok1_at {P : oa_P} {n : Nat} : ∀ {m : Nat}, ok1 P n m = true → ∀ p, p < m → kf P n p = true ∧ af P n p 6 = true
  | 0, _, p, hp => absurd hp (by omega)
  | m + 1, h, p, hp => by
    rw [ok1_succ, Bool.and_eq_true, Bool.and_eq_true] at h
    by_cases e : p = m
    · subst e
      exact ⟨h.1.2, h.2⟩
    · exact ok1_at h.1.1 p (by omega)
theorem xc_cn (P : oa_P) (p : Nat) (y : Int32) : ∀ q, xc P p y q = oa_cn (an P p) q + y
  | 0 => (Int32.zero_add y).symm
  | q + 1 => by
    rw [xc_succ, oa_cn_succ, xc_cn P p y q]
    split
    · rw [oa_r1]
    · rfl
theorem xc_7 {P : oa_P} {p : Nat} (h : P (48 + (7 * p + 6)) = 0 ∨ P (48 + (7 * p + 6)) = 1) : xc P p (P (48 + (7 * p + 6))) 6 = oa_cn (an P p) 7 := by
  rw [xc_cn, show oa_cn (an P p) 7 = if an P p 6 = true then oa_cn (an P p) 6 + 1 else oa_cn (an P p) 6 from oa_cn_succ (an P p) 6]
  rcases h with h | h
  · have : an P p 6 = false := by unfold an; rw [h]; decide
    rw [this, h, Int32.add_zero, if_neg (by decide)]
  · have : an P p 6 = true := by unfold an; rw [h]; decide
    rw [this, h, if_pos rfl]
theorem bt_ev : ∀ n, n ≤ 6 → ∀ i, i < 32 → bt (nI (2 ^ n) - 1) i = decide (i < n) := by decide +kernel
theorem bt_65 : ∀ i, i < 32 → bt (-65) i = !decide (i = 6) := by decide +kernel
theorem nle_no : ∀ n, n ≤ 6 → ¬ nI n ≤ oNO := by decide +kernel
theorem cl_mask {n p : Nat} (hp : p < n) (hn : n ≤ 6) {x : Int32} {g : Nat → Bool} (hx : ∀ i, i < 32 → bt x i = (decide (i < 6) && g i)) : (x &&& (((nI (2 ^ n) - 1) &&& (((1 : Int32) <<< (nI p &&& 31)) ^^^ (-1))) ^^^ (-1))) = 0 ↔ ∀ i, i < 6 → g i = true → i ≠ p ∧ i < n := by
  have hb : ∀ i, i < 32 → bt (x &&& (((nI (2 ^ n) - 1) &&& (((1 : Int32) <<< (nI p &&& 31)) ^^^ (-1))) ^^^ (-1))) i = ((decide (i < 6) && g i) && !(decide (i < n) && !decide (i = p))) := by
    intro i hi
    rw [b_and, hx i hi, b_xor, b_and, b_xor, b_m1 i hi, oa_b1 p (by omega) i hi, bt_ev n hn i hi, Bool.xor_true, Bool.xor_true]
  constructor
  · intro h i hi hg
    have := hb i (by omega)
    rw [h, b_0, decide_eq_true hi, hg] at this
    by_cases l : i < n
    · by_cases e : i = p
      · rw [decide_eq_true l, decide_eq_true e] at this
        exact absurd this (by decide)
      · exact ⟨e, l⟩
    · rw [decide_eq_false l] at this
      exact absurd this (by simp)
  · intro h
    apply b_ext
    intro i hi
    rw [hb i hi, b_0]
    by_cases l6 : i < 6
    · cases hg : g i
      · rw [Bool.and_false, Bool.false_and]
      · obtain ⟨e, l⟩ := h i l6 hg
        rw [decide_eq_false e, decide_eq_true l]
        simp
    · rw [decide_eq_false l6, Bool.false_and, Bool.false_and]
section CK
variable {T V : oa_I2} {R P : oa_P} {n : Nat}
theorem cv_of (hX : TDX n 0 V P) (hR : TDR V R) (hV : V 5 0 = nI n) : CV n R (fun _ => 0) P V := by
  obtain ⟨h1, h2, h3, h4, h5, h6, h7⟩ := hX
  refine ⟨⟨h1, hV, hR.1, fun w hw p hp => (h2 w p hw (by omega) (Or.inl hp)).1⟩, ⟨h4, fun r hr p hp ha => ?_⟩, h7⟩
  rcases h6 r hr p (by omega) with c | c
  · unfold an at ha
    rw [c] at ha
    exact absurd ha (by decide)
  · rw [c.1, h5 _ (by omega)]; rfl
theorem bi_and (c e : Bool) : oa_bi c &&& oa_bi e = oa_bi (c && e) := by cases c <;> cases e <;> decide
theorem cl_90 {c d e : Bool} {i : Nat} {k6 : Int32 → Int32 → Int32 → Option (oa_I2)} (h : CV n R (fun _ => 0) P V) (hi : i < n) : b_X4_checkAll_90 V k6 T (oa_bi d) (nI i) (oa_bi c) (oa_bi e) = k6 (oa_bi (c && e)) (oa_bi (d && !decide (R 0 < oa_cn (an P i) 7))) (nI (i + 1)) := by
  have h6 := h.1.1
  have hr : oa_rd (V 0) 3 0 = some (R 0) := by
    rw [← h.1.2.2.1 0 (by omega)]
    exact oa_rd_nI (i := 0) (by omega) (by omega)
  unfold b_X4_checkAll_90
  rw [oa_lt, bi_and, cv_angersOf h (by omega), oa_bs, hr, oa_bs, nI_1]
  by_cases l : R 0 < oa_cn (an P i) 7
  · rw [if_pos l, decide_eq_true l, oa_lt, show (0 : Int32) = oa_bi false from rfl, bi_and]
    rfl
  · rw [if_neg l, decide_eq_false l, oa_lt, show (oa_bi d &&& 1) = oa_bi (d && true) from bi_and d true]
    rfl
/-- one's kin and angers fit, as the class asks -/
theorem cl_fit {p : Nat} (hX : TDX n 0 V P) (hp : p < n) : ((((oa_mk (an P p) 7 &&& (-65)) ||| (if P (8 * p + 7) = -4 then 0 else (1 : Int32) <<< (P (8 * p + 7) &&& 31))) &&& (((nI (2 ^ n) - 1) &&& (((1 : Int32) <<< (nI p &&& 31)) ^^^ (-1))) ^^^ (-1))) = 0) ↔ (kf P n p && af P n p 6) = true := by
  have h6 := hX.1
  have hA : ∀ i, i < 32 → bt (oa_mk (an P p) 7 &&& (-65)) i = (decide (i < 6) && an P p i) := by
    intro i hi
    rw [b_and, oa_mk_bt _ 7 (by omega) i hi, bt_65 i hi]
    by_cases l : i < 6
    · rw [decide_eq_true l, decide_eq_true (show i < 7 by omega), decide_eq_false (show ¬ i = 6 by omega)]; simp
    · by_cases e : i = 6
      · rw [decide_eq_false l, decide_eq_true e]; simp
      · rw [decide_eq_false l, decide_eq_false (show ¬ i < 7 by omega)]; simp
  rw [Bool.and_eq_true, af_iff]
  rcases (hX.2.1 7 p (by omega) (by omega) (Or.inl hp)).2.2.2.2 rfl with k | ⟨y, y5, k⟩
  · rw [if_pos (show P (8 * p + 7) = -4 from k), Int32.or_zero, cl_mask hp h6 hA]
    have : kf P n p = true := by
      unfold kf
      rw [k, decide_eq_false (fun c => oa_no (q := p) (by omega) c.symm), decide_eq_false (nle_no n h6)]; rfl
    exact ⟨fun h => ⟨this, h⟩, fun h => h.2⟩
  · rw [k, if_neg (show ¬ nI y = -4 from oa_no (by omega)), cl_mask (g := fun i => an P p i || decide (i = y)) hp h6 (fun i hi => ?_)]
    · have hk : kf P n p = true ↔ y ≠ p ∧ y < n := by
        unfold kf
        rw [k, Bool.and_eq_true]
        constructor
        · rintro ⟨q1, q2⟩
          refine ⟨fun c => ?_, Decidable.byContradiction fun c => ?_⟩
          · rw [decide_eq_true (congrArg nI c)] at q1
            exact absurd q1 (by decide)
          · rw [decide_eq_true (nI_le (show n ≤ y by omega) (by omega))] at q2
            exact absurd q2 (by decide)
        · rintro ⟨q1, q2⟩
          rw [decide_eq_false (nI_neq q1 (by omega) (by omega)), decide_eq_false (nI_ge q2 (by omega))]
          exact ⟨rfl, rfl⟩
      rw [hk]
      constructor
      · intro h
        exact ⟨h y (by omega) (by simp), fun i hi ha => h i hi (by simp [ha])⟩
      · rintro ⟨q1, q2⟩ i hi ha
        by_cases e : i = y
        · rw [e]; exact q1
        · exact q2 i hi (by simpa [e] using ha)
    · rw [b_or, hA i hi, oa_b1 y (by omega) i hi]
      by_cases l : i < 6
      · rw [decide_eq_true l]; simp
      · rw [decide_eq_false l, decide_eq_false (show ¬ i = y by omega)]; simp
theorem check (hX : TDX n 0 V P) (hR : TDR V R) (hV : V 5 0 = nI n) : f_X4_checkAll T V = if ok1 P n n = true then (if ok2 R P n = true then some T else (f_X4_fail T V 7 (T 1 0)).bind <| oa_u fun (_ : Int32) (T5 : oa_I2) => some T5) else (f_X4_fail T V 6 (T 1 0)).bind <| oa_u fun (_ : Int32) (T5 : oa_I2) => some T5 := by
  have hc := cv_of hX hR hV
  have h6 := hX.1
  unfold f_X4_checkAll l_X4_checkAll_6
  refine oa_for (fun i => (oa_bi (ok1 P n i), oa_bi (ok2 R P i), nI i)) n rfl ?_ ?_ oa_fu (by rw [oa_fu_eq]; omega)
  · intro i hi k
    show b_X4_checkAll_6 V T (fun x1 x2 x3 => k (x1, x2, x3)) (oa_bi (ok1 P n i)) (oa_bi (ok2 R P i)) (nI i) = k (oa_bi (ok1 P n (i + 1)), oa_bi (ok2 R P (i + 1)), nI (i + 1))
    have hx7 : xc P i (P (48 + (7 * i + 6))) 6 = oa_cn (an P i) 7 := xc_7 ((hX.2.2.2.2.2.1 i (by omega) 6 (by omega)).imp id (fun c => c.1))
    rw [ok1_succ, ok2_succ, hx7, Bool.and_assoc]
    generalize ok1 P n i = c
    generalize ok2 R P i = d
    have hev : f_X5_everybody V = some (nI (2 ^ n) - 1) := by
      unfold f_X5_everybody
      rw [hV, oa_shl1 n h6]
    have ht : f_X5_trait V 7 (nI i) = some (P (8 * i + 7)) := ct_w (w := 7) hc.1 (by omega) hi
    have hr2 : oa_rd (V 2) 6 (nI i) = some (oa_mk (an P i) 7) := by
      rw [← hX.2.2.2.1 i (by omega)]
      exact oa_rd_nI (by omega) (by omega)
    have h71 : ∀ s1 : Int32, s1 = (if P (8 * i + 7) = -4 then 0 else (1 : Int32) <<< (P (8 * i + 7) &&& 31)) → b_X4_checkAll_71 V (fun x1 x2 x3 => k (x1, x2, x3)) T (oa_bi c) (oa_bi d) (nI i) ((nI (2 ^ n) - 1) &&& (((1 : Int32) <<< (nI i &&& 31)) ^^^ (-1))) (oa_mk (an P i) 7 &&& (-65)) s1 = k (oa_bi (c && (kf P n i && af P n i 6)), oa_bi (d && !decide (R 0 < oa_cn (an P i) 7)), nI (i + 1)) := by
      intro s1 hs
      have hf := cl_fit hX hi
      rw [← hs] at hf
      unfold b_X4_checkAll_71
      rw [oa_lt]
      by_cases g : (kf P n i && af P n i 6) = true
      · rw [if_pos (hf.mpr g), g]
        exact cl_90 (e := true) hc hi
      · rw [if_neg (fun q => g (hf.mp q)), Bool.eq_false_iff.mpr g]
        exact cl_90 (e := false) hc hi
    unfold b_X4_checkAll_6
    rw [hV, if_neg (nI_ge hi (by omega)), hev, oa_bs, oa_lt, ht, oa_bs, hr2, oa_bs]
    by_cases e : P (8 * i + 7) = -4
    · rw [if_pos e]
      exact h71 0 (by rw [if_pos e])
    · rw [if_neg e]
      exact h71 _ (by rw [if_neg e])
  · intro k
    show b_X4_checkAll_6 V T (fun x1 x2 x3 => k (x1, x2, x3)) (oa_bi (ok1 P n n)) (oa_bi (ok2 R P n)) (nI n) = _
    unfold b_X4_checkAll_6
    rw [hV, if_pos (nI_le (by omega) (by omega))]
    cases ok1 P n n
    · rfl
    · cases ok2 R P n
      · rfl
      · rfl
end CK
