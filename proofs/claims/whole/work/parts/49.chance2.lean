theorem mk_num (f : Nat → Bool) {n : Nat} (h6 : n ≤ 6) : ∃ a, a < 2 ^ n ∧ oa_mk f n = nI a ∧ ∀ i, i < 32 → a.testBit i = (decide (i < n) && f i) := by
  have hb : ∀ i, i < 32 → (oa_mk f n).toBitVec.toNat.testBit i = (decide (i < n) && f i) := fun i hi => oa_mk_bt f n (by omega) i hi
  refine ⟨(oa_mk f n).toBitVec.toNat, ?_, ?_, hb⟩
  · apply Nat.lt_pow_two_of_testBit
    intro i hi
    by_cases l : i < 32
    · rw [hb i l, decide_eq_false (show ¬ i < n by omega)]; rfl
    · exact b_big (x := oa_mk f n) (by omega)
  · apply Int32.toBitVec_inj.mp
    show _ = BitVec.ofNat 32 _
    rw [BitVec.ofNat_toNat, BitVec.setWidth_eq]
theorem nI_xor (a b : Nat) : nI a ^^^ nI b = nI (a ^^^ b) := by
  apply b_ext
  intro i hi
  rw [b_xor, bt_nI _ hi, bt_nI _ hi, bt_nI _ hi, Nat.testBit_xor]
section CH
variable (R P : oa_P) (n p : Nat)
/-- the weight of what is seen, the first r looked at -/
def prw (s : Nat) : Nat → Int64
  | 0 => 1
  | r + 1 => prw s r * (if r = p then 1 else if s.testBit r = sn R P r then (R 2).toInt64 else (10 - R 2).toInt64)
def Wm (s : Nat) : Int64 := if s.testBit p = true then 0 else prw R P p s n
def Qm (s : Nat) : Int32 := if Wm R P n p s = 0 then oNO else (chs R P n p (fun r => s.testBit r && can P p r) n).1
end CH
theorem Qm_some (R P : oa_P) (n p s : Nat) : Qm R P n p s = oNO ∨ ∃ q, q < n ∧ q ≠ p ∧ Qm R P n p s = nI q := by
  unfold Qm
  split
  · exact Or.inl rfl
  · exact chs_some R P n p _ n
theorem if_lg0 {α : Type} {x y : α} (z : Int64) : (if lg_cmp z 0 = 0 then x else y) = if z = 0 then x else y := by
  by_cases e : z = 0
  · rw [if_pos ((lg_0 z).mpr e), if_pos e]
  · rw [if_neg (fun d => e ((lg_0 z).mp d)), if_neg e]
/-- what q gets of s -/
def gm (R P : oa_P) (n p q s : Nat) : Int64 := if Qm R P n p s = nI q then Wm R P n p s else 0
def gv (R P : oa_P) (n p s : Nat) : Int64 := if Qm R P n p s = oNO then 0 else Wm R P n p s * (val R P (Qm R P n p s).toNatClampNeg (abl R P p) n).toInt64
theorem gm_at (R P : oa_P) (n p q s : Nat) : gm R P n p q s = if Qm R P n p s = nI q then Wm R P n p s else 0 := rfl
theorem gv_at (R P : oa_P) (n p s : Nat) : gv R P n p s = if Qm R P n p s = oNO then 0 else Wm R P n p s * (val R P (Qm R P n p s).toNatClampNeg (abl R P p) n).toInt64 := rfl
section CHM
variable {M : oa_I2} {K : oa_J2} {n p : Nat}
theorem vp_s (f : Nat → Int64) (k : Nat) (x : Int64) : vp_updL f k x k = x := if_pos rfl
theorem vp_n (f : Nat → Int64) {k j : Nat} (x : Int64) (h : j ≠ k) : vp_updL f k x j = f j := if_neg h
theorem lN10 (k : Nat) : lN (10 ^ k) * 10 = lN (10 ^ (k + 1)) := by
  rw [show (10 : Int64) = lN 10 from rfl, lN_mul, Nat.pow_succ]
/-- how many of the first q are others -/
def oth (n p : Nat) : Nat → Nat
  | 0 => 0
  | q + 1 => if q < n ∧ q ≠ p then oth n p q + 1 else oth n p q
theorem oth_le {n p : Nat} : ∀ q, q ≤ p → q ≤ n → oth n p q = q
  | 0, _, _ => rfl
  | q + 1, h, h2 => by unfold oth; rw [if_pos (by omega), oth_le q (by omega) (by omega)]
theorem oth_mid {n p : Nat} (hp : p < n) : ∀ d, p + 1 + d ≤ n → oth n p (p + 1 + d) = p + d
  | 0, _ => by
    show (if p < n ∧ p ≠ p then _ else oth n p p) = _
    rw [if_neg (by omega), oth_le p (Nat.le_refl p) (by omega)]; rfl
  | d + 1, h => by
    show (if p + 1 + d < n ∧ p + 1 + d ≠ p then oth n p (p + 1 + d) + 1 else _) = _
    rw [if_pos (by omega), oth_mid hp d (by omega)]; rfl
theorem oth_hi {n p : Nat} : ∀ d, oth n p (n + d) = oth n p n
  | 0 => rfl
  | d + 1 => by
    show (if n + d < n ∧ n + d ≠ p then _ else oth n p (n + d)) = _
    rw [if_neg (by omega), oth_hi d]
theorem oth_6 {n p : Nat} (h6 : n ≤ 6) (hp : p < n) : oth n p 6 = n - 1 ∧ oth n p n = n - 1 := by
  have h1 : oth n p n = n - 1 := by
    have := oth_mid hp (n - (p + 1)) (by omega)
    rw [show p + 1 + (n - (p + 1)) = n by omega] at this
    omega
  have h2 := oth_hi (n := n) (p := p) (6 - n)
  rw [show n + (6 - n) = 6 by omega] at h2
  exact ⟨h2.trans h1, h1⟩
theorem md_weight {s : Nat} {X : Int32} {k2 : oa_J2 → Int32 → Option oa_J2} {x0 : Int64} (hn : M 1 99 = nI n) (h6 : n ≤ 6) (hp : p < n) (hx : x0 = if s.testBit p = true then 0 else 1) : l_X7_layChances_111 M (nI p) K (oa_mk (sn (M 2) (M 1)) n) X (nI s) k2 oa_fu x0 0 = b_X7_layChances_209 M (nI p) k2 K (oa_mk (sn (M 2) (M 1)) n) X (nI s) (Wm (M 2) (M 1) n p s) (Qm (M 2) (M 1) n p s) := by
  have hb : ∀ r, r < n → bt (nI s) r = s.testBit r := fun r hr => bt_nI s (by omega)
  unfold l_X7_layChances_111
  refine oa_for (fun i => (if s.testBit p = true then 0 else prw (M 2) (M 1) p s i, nI i)) n (by rw [hx]; rfl) ?_ ?_ oa_fu (by rw [oa_fu_eq]; omega)
  · intro i hi k
    have hask : (((nI s >>> (nI i &&& 31)) &&& 1) = ((oa_mk (sn (M 2) (M 1)) n >>> (nI i &&& 31)) &&& 1)) ↔ s.testBit i = sn (M 2) (M 1) i := by
      rw [oa_ask _ (by omega), oa_ask _ (by omega), hb i hi, bt_mk (by omega) hi]
      cases s.testBit i <;> cases sn (M 2) (M 1) i <;> decide
    have hmul : ∀ z : Int64, (if s.testBit p = true then 0 else prw (M 2) (M 1) p s i) * z = if s.testBit p = true then 0 else prw (M 2) (M 1) p s i * z := by
      intro z
      split
      · exact Int64.zero_mul
      · rfl
    show b_X7_layChances_111 M (nI p) K (oa_mk (sn (M 2) (M 1)) n) X (nI s) k2 (fun x5 x7 => k (x5, x7)) (if s.testBit p = true then 0 else prw (M 2) (M 1) p s i) (nI i) = k ((if s.testBit p = true then 0 else prw (M 2) (M 1) p s i * (if i = p then 1 else if s.testBit i = sn (M 2) (M 1) i then (M 2 2).toInt64 else (10 - M 2 2).toInt64)), nI (i + 1))
    unfold b_X7_layChances_111 b_X7_layChances_141
    rw [md_many hn]
    simp only [oa_bs, oa_lt, nI_1]
    rw [if_neg (nI_ge hi (by omega)), ← hmul]
    have r2 : oa_rd (M 2) 3 2 = some (M 2 2) := oa_rd_nI (i := 2) (by omega) (by omega)
    rw [r2]
    simp only [oa_bs]
    by_cases e : i = p
    · simp only [if_pos (show nI i = nI p by rw [e]), if_pos e, ite_self]
    · simp only [if_neg (fun d => e ((nI_eq (by omega) (by omega)).mp d)), if_neg e]
      by_cases c : s.testBit i = sn (M 2) (M 1) i
      · simp only [if_pos (hask.mpr c), if_pos c, oa_10, if_false]
      · simp only [if_neg (fun d => c (hask.mp d)), if_neg c, if_true]
  · intro k
    show b_X7_layChances_111 M (nI p) K (oa_mk (sn (M 2) (M 1)) n) X (nI s) k2 (fun x5 x7 => k (x5, x7)) (Wm (M 2) (M 1) n p s) (nI n) = _
    unfold b_X7_layChances_111
    rw [md_many hn]
    simp only [oa_bs]
    rw [if_pos (nI_le (Nat.le_refl n) (by omega)), if_lg0, md_chosen0 hn h6 (by omega)]
    unfold Qm
    by_cases e : Wm (M 2) (M 1) n p s = 0
    · rw [if_pos e, if_pos e]; rfl
    · rw [if_neg e, if_neg e]
      simp only [oa_bs]
      rw [chs_cong (fun r hr => by rw [hb r hr])]
theorem md_chances (hn : M 1 99 = nI n) (h6 : n ≤ 6) (hp : p < n) : ∃ K', f_X7_layChances M K (nI p) = some K' ∧ (∀ q, q < 6 → K' 0 q = sm (gm (M 2) (M 1) n p q) (2 ^ n)) ∧ K' 1 1 = lN (10 ^ (n - 1)) ∧ K' 1 0 = sm (gv (M 2) (M 1) n p) (2 ^ n) := by
  have h64 := p2_le h6
  unfold f_X7_layChances
  rw [md_seenFree0 hn h6, md_freeOnes0 hn h6]
  simp only [oa_bs, oa_lt]
  unfold l_X7_layChances_25
  refine oa_forR (fun o => ∃ K' : oa_J2, o = some K' ∧ (∀ q, q < 6 → K' 0 q = sm (gm (M 2) (M 1) n p q) (2 ^ n)) ∧ K' 1 1 = lN (10 ^ (n - 1)) ∧ K' 1 0 = sm (gv (M 2) (M 1) n p) (2 ^ n)) (fun i t => ∃ K' : oa_J2, t = (K', nI i) ∧ (∀ q, q < i → K' 0 q = 0) ∧ K' 1 1 = lN (10 ^ oth n p i) ∧ K' 1 0 = 0) 6 ⟨_, rfl, fun q hq => absurd hq (Nat.not_lt_zero q), rfl, rfl⟩ ?_ ?_ oa_fu (by rw [oa_fu_eq]; omega)
  · rintro i hi t ⟨K1, rfl, k1, k2, k3⟩
    left
    refine ⟨(va_up (va_up K1 0 (vp_updL (K1 0) i 0)) 1 (vp_updL (K1 1) 1 (lN (10 ^ oth n p (i + 1)))), nI (i + 1)), ⟨_, rfl, fun q hq => ?_, ?_, ?_⟩, fun k => ?_⟩
    · rw [va_up_n _ _ (by omega), va_up_s]
      by_cases e : q = i
      · rw [e, vp_s]
      · rw [vp_n _ _ e]; exact k1 q (by omega)
    · rw [va_up_s, vp_s]
    · rw [va_up_s, vp_n _ _ (by omega)]; exact k3
    · have hs : (if q' : i < n ∧ i ≠ p then K1 1 1 * 10 else K1 1 1 * 1) = lN (10 ^ oth n p (i + 1)) := by
        show _ = lN (10 ^ (if i < n ∧ i ≠ p then oth n p i + 1 else oth n p i))
        by_cases c : i < n ∧ i ≠ p
        · rw [dif_pos c, if_pos c, k2, lN10]
        · rw [dif_neg c, if_neg c, k2, Int64.mul_one]
      simp only [oa_ut]
      unfold b_X7_layChances_25 b_X7_layChances_67
      rw [if_neg (show ¬ (6 : Int32) ≤ nI i from nI_ge (b := 6) hi (by omega)), oa_wrL_nI (by omega) (by omega)]
      simp only [oa_bs, oa_lt, md_many hn, va_up_n K1 (vp_updL (K1 0) i 0) (show (1 : Nat) ≠ 0 by omega), nI_1]
      by_cases c : i < n
      · rw [if_neg (nI_ge c (by omega))]
        by_cases e : i = p
        · rw [dif_neg (by omega)] at hs
          rw [if_pos (by rw [e]), hs]
        · rw [dif_pos ⟨c, e⟩] at hs
          rw [if_neg (fun d => e ((nI_eq (by omega) (by omega)).mp d)), hs]
      · rw [dif_neg (by omega)] at hs
        rw [if_pos (nI_le (by omega) (by omega)), hs]
  · rintro t ⟨K1, rfl, k1, k2, k3⟩
    refine ⟨_, ?_, fun k => by simp only [oa_ut]; unfold b_X7_layChances_25; rw [if_pos (show (6 : Int32) ≤ nI 6 from nI_le (a := 6) (Nat.le_refl 6) (by omega))]⟩
    rw [(oth_6 h6 hp).1] at k2
    unfold l_X7_layChances_80
    refine oa_forK (fun o => ∃ K' : oa_J2, o = some K' ∧ (∀ q, q < 6 → K' 0 q = sm (gm (M 2) (M 1) n p q) (2 ^ n)) ∧ K' 1 1 = lN (10 ^ (n - 1)) ∧ K' 1 0 = sm (gv (M 2) (M 1) n p) (2 ^ n)) (fun i t => ∃ K' : oa_J2, t = (K', nI i) ∧ (∀ q, q < 6 → K' 0 q = sm (gm (M 2) (M 1) n p q) i) ∧ K' 1 1 = lN (10 ^ (n - 1)) ∧ K' 1 0 = sm (gv (M 2) (M 1) n p) i) (2 ^ n) ⟨K1, rfl, k1, k2, k3⟩ ?_ ?_ oa_fu (by rw [oa_fu_eq]; omega)
    · rintro i hi t ⟨K2, rfl, j1, j2, j3⟩ k
      left
      have hb : bt (nI i) p = i.testBit p := bt_nI i (by omega)
      have hw : b_X7_layChances_80 M (nI p) (oa_mk (sn (M 2) (M 1)) n) (oa_mk (fr (M 2) (M 1)) n) (fun J x4 => k (J, x4)) K2 (nI i) = b_X7_layChances_209 M (nI p) (fun J x4 => k (J, x4)) K2 (oa_mk (sn (M 2) (M 1)) n) (oa_mk (fr (M 2) (M 1)) n) (nI i) (Wm (M 2) (M 1) n p i) (Qm (M 2) (M 1) n p i) := by
        unfold b_X7_layChances_80
        rw [md_many hn]
        simp only [oa_bs]
        rw [oa_shl1 n h6, if_neg (nI_ge hi (by omega)), oa_if_b1 _ (by omega), hb]
        cases hbp : i.testBit p
        · rw [if_neg (by decide)]
          exact md_weight hn h6 hp (by rw [hbp]; rfl)
        · rw [if_pos rfl]
          exact md_weight hn h6 hp (by rw [hbp]; rfl)
      simp only [oa_ut]
      rw [hw]
      unfold b_X7_layChances_209
      rcases Qm_some (M 2) (M 1) n p i with e | ⟨q0, q1, q2, e⟩
      · rw [if_pos (show Qm (M 2) (M 1) n p i = -4 from e), nI_1]
        refine ⟨(K2, nI (i + 1)), ⟨K2, rfl, fun q hq => ?_, j2, ?_⟩, rfl⟩
        · show _ = sm _ i + gm (M 2) (M 1) n p q i
          rw [gm_at]
          rw [e, if_neg (fun d => oa_no (q := q) (by omega) d.symm), Int64.add_zero]; exact j1 q hq
        · show _ = sm _ i + gv (M 2) (M 1) n p i
          rw [gv_at]
          rw [if_pos e, Int64.add_zero]; exact j3
      · have hno : ¬ Qm (M 2) (M 1) n p i = -4 := by rw [e]; exact oa_no (by omega)
        rw [if_neg hno, e, oa_rdL_nI (by omega) (by omega)]
        simp only [oa_bs]
        rw [oa_wrL_nI (by omega) (by omega)]
        simp only [oa_bs, oa_lt]
        rw [md_worthBy0 hn h6 (by omega) (by omega), val_abl h6]
        simp only [oa_bs, nI_1]
        refine ⟨(_, nI (i + 1)), ⟨_, rfl, fun q hq => ?_, ?_, ?_⟩, rfl⟩
        · show _ = sm _ i + gm (M 2) (M 1) n p q i
          rw [va_up_n _ _ (by omega), va_up_s]
          rw [gm_at]
          rw [e]
          by_cases c : q = q0
          · rw [c, vp_s, if_pos rfl, j1 q0 (by omega)]
          · rw [vp_n _ _ c, if_neg (fun d => c ((nI_eq (by omega) (by omega)).mp d).symm), Int64.add_zero]; exact j1 q hq
        · rw [va_up_s, vp_n _ _ (by omega), va_up_n _ _ (by omega)]; exact j2
        · show _ = sm _ i + gv (M 2) (M 1) n p i
          rw [va_up_s, vp_s, va_up_n _ _ (by omega), j3]
          rw [gv_at]
          rw [if_neg (show ¬ Qm (M 2) (M 1) n p i = oNO from hno), e, nI_clamp (by omega)]
    · rintro t ⟨K2, rfl, j1, j2, j3⟩ k
      refine ⟨K2, ?_, j1, j2, j3⟩
      simp only [oa_ut]
      unfold b_X7_layChances_80
      rw [md_many hn]
      simp only [oa_bs]
      rw [oa_shl1 n h6, if_pos (nI_le (Nat.le_refl _) (by omega))]
end CHM
