/-! the JDK's count of a long's bits -/
theorem btL_lN (a : Nat) {i : Nat} (hi : i < 64) : btL (lN a) i = a.testBit i := by
  show (BitVec.ofNat 64 a).getLsbD i = _
  rw [BitVec.getLsbD_ofNat]; simp [hi]
theorem btL_and (x y : Int64) (i : Nat) : btL (x &&& y) i = (btL x i && btL y i) := by unfold btL; rw [Int64.toBitVec_and, BitVec.getLsbD_and]
theorem btL_big {x : Int64} {i : Nat} (h : 64 ≤ i) : btL x i = false := BitVec.getLsbD_of_ge _ _ h
theorem lN_and (a b : Nat) : lN a &&& lN b = lN (a &&& b) := by
  apply bL_ext
  intro i hi
  rw [btL_and, btL_lN a hi, btL_lN b hi, btL_lN _ hi, Nat.testBit_and]
theorem lN_shr {a k : Nat} (hk : k < 64) (ha : a < 2 ^ 64) : ((lN a).toUInt64 >>> (Int64.toUInt64 (Int32.toInt64 (nI k)) &&& Int64.toUInt64 63)).toInt64 = lN (a >>> k) := by
  apply bL_ext
  intro i hi
  rw [bL_ushr k hk, btL_lN _ hi, Nat.testBit_shiftRight]
  by_cases l : k + i < 64
  · rw [btL_lN _ l]
  · rw [btL_big (by omega), Nat.testBit_lt_two_pow (Nat.lt_of_lt_of_le ha (Nat.pow_le_pow_right (by omega) (by omega)))]
theorem lN_shr1 {a : Nat} (ha : a < 2 ^ 64) : ((lN a).toUInt64 >>> (Int64.toUInt64 (Int32.toInt64 1) &&& Int64.toUInt64 63)).toInt64 = lN (a >>> 1) := lN_shr (k := 1) (by omega) ha
theorem lN_shr2 {a : Nat} (ha : a < 2 ^ 64) : ((lN a).toUInt64 >>> (Int64.toUInt64 (Int32.toInt64 2) &&& Int64.toUInt64 63)).toInt64 = lN (a >>> 2) := lN_shr (k := 2) (by omega) ha
theorem lN_shr4 {a : Nat} (ha : a < 2 ^ 64) : ((lN a).toUInt64 >>> (Int64.toUInt64 (Int32.toInt64 4) &&& Int64.toUInt64 63)).toInt64 = lN (a >>> 4) := lN_shr (k := 4) (by omega) ha
theorem lN_shr8 {a : Nat} (ha : a < 2 ^ 64) : ((lN a).toUInt64 >>> (Int64.toUInt64 (Int32.toInt64 8) &&& Int64.toUInt64 63)).toInt64 = lN (a >>> 8) := lN_shr (k := 8) (by omega) ha
theorem lN_shr16 {a : Nat} (ha : a < 2 ^ 64) : ((lN a).toUInt64 >>> (Int64.toUInt64 (Int32.toInt64 16) &&& Int64.toUInt64 63)).toInt64 = lN (a >>> 16) := lN_shr (k := 16) (by omega) ha
theorem lN_shr32 {a : Nat} (ha : a < 2 ^ 64) : ((lN a).toUInt64 >>> (Int64.toUInt64 (Int32.toInt64 32) &&& Int64.toUInt64 63)).toInt64 = lN (a >>> 32) := lN_shr (k := 32) (by omega) ha
theorem bt_nI (a : Nat) {i : Nat} (hi : i < 32) : bt (nI a) i = a.testBit i := by
  show (BitVec.ofNat 32 a).getLsbD i = _
  rw [BitVec.getLsbD_ofNat]; simp [hi]
theorem nI_127 (a : Nat) : nI a &&& 127 = nI (a % 128) := by
  apply b_ext
  intro i hi
  have h7 : bt 127 i = decide (i < 7) := (show ∀ i, i < 32 → bt 127 i = decide (i < 7) by decide +kernel) i hi
  rw [b_and, bt_nI _ hi, bt_nI _ hi, h7, show (128 : Nat) = 2 ^ 7 from rfl, Nat.testBit_mod_two_pow]
  cases decide (i < 7) <;> simp
theorem dg_tb {c : Nat} (hc : c < 256) (h j : Nat) : (c + 256 * h).testBit j = if j < 8 then c.testBit j else h.testBit (j - 8) := by
  have := Nat.testBit_two_pow_mul_add h (i := 8) (b := c) hc j
  rw [Nat.add_comm]; exact this
theorem dg_and {c m0 : Nat} (hc : c < 256) (hm : m0 < 256) (h m : Nat) : (c + 256 * h) &&& (m0 + 256 * m) = (c &&& m0) + 256 * (h &&& m) := by
  apply Nat.eq_of_testBit_eq
  intro j
  rw [Nat.testBit_and, dg_tb hc, dg_tb hm, dg_tb (Nat.lt_of_le_of_lt Nat.and_le_left hc), Nat.testBit_and, Nat.testBit_and]
  by_cases l : j < 8
  · rw [if_pos l, if_pos l, if_pos l]
  · rw [if_neg l, if_neg l, if_neg l]
theorem dg_shr {c m0 s : Nat} (hc : c < 256) (hm : m0 < 256) (hs : s ≤ 8) (h0 : ∀ j, 8 ≤ s + j → j < 8 → m0.testBit j = false) (h m : Nat) : ((c + 256 * h) >>> s) &&& (m0 + 256 * m) = ((c >>> s) &&& m0) + 256 * ((h >>> s) &&& m) := by
  have hlt : (c >>> s) &&& m0 < 256 := Nat.lt_of_le_of_lt Nat.and_le_right hm
  apply Nat.eq_of_testBit_eq
  intro j
  rw [Nat.testBit_and, Nat.testBit_shiftRight, dg_tb hc, dg_tb hm, dg_tb hlt, Nat.testBit_and, Nat.testBit_and, Nat.testBit_shiftRight, Nat.testBit_shiftRight]
  by_cases l : j < 8
  · rw [if_pos l, if_pos l]
    by_cases l2 : s + j < 8
    · rw [if_pos l2]
    · rw [h0 j (by omega) l, Bool.and_false, Bool.and_false]
  · rw [if_neg l, if_neg l, if_neg (by omega), show s + j - 8 = s + (j - 8) by omega]
def sA (a m : Nat) : Nat := a - ((a >>> 1) &&& m)
def sB (a m : Nat) : Nat := (a &&& m) + ((a >>> 2) &&& m)
def sC (a m : Nat) : Nat := (a + (a >>> 4)) &&& m
def tA (c : Nat) : Nat := c - ((c >>> 1) &&& 85)
def tB (c : Nat) : Nat := (c &&& 51) + ((c >>> 2) &&& 51)
theorem tb85 : ∀ j, 8 ≤ 1 + j → j < 8 → (85 : Nat).testBit j = false := by
  intro j h1 h2
  have : j = 7 := by omega
  subst this
  decide
theorem sA_s {c : Nat} (hc : c < 256) (h m : Nat) : sA (c + 256 * h) (85 + 256 * m) = tA c + 256 * sA h m := by
  unfold sA tA
  rw [dg_shr hc (by omega) (by omega) tb85]
  have h1 : (c >>> 1) &&& 85 ≤ c := Nat.le_trans Nat.and_le_left (by rw [Nat.shiftRight_eq_div_pow]; omega)
  have h2 : (h >>> 1) &&& m ≤ h := Nat.le_trans Nat.and_le_left (by rw [Nat.shiftRight_eq_div_pow]; omega)
  generalize (c >>> 1) &&& 85 = u at h1
  generalize (h >>> 1) &&& m = v at h2
  omega
theorem sB_s {c : Nat} (hc : c < 256) (h m : Nat) : sB (c + 256 * h) (51 + 256 * m) = tB c + 256 * sB h m := by
  unfold sB tB
  rw [dg_shr hc (by omega) (by omega) (show ∀ j, 8 ≤ 2 + j → j < 8 → (51 : Nat).testBit j = false by intro j h1 h2; rcases (show j = 6 ∨ j = 7 by omega) with e | e <;> subst e <;> decide), dg_and hc (by omega)]
  generalize c &&& 51 = u
  generalize (c >>> 2) &&& 51 = v
  generalize h &&& m = u'
  generalize (h >>> 2) &&& m = v'
  omega
theorem sC_s {c : Nat} (h : Nat) (hc : c ≤ 68) (hh : h % 16 ≤ 4) (m : Nat) : sC (c + 256 * h) (15 + 256 * m) = (c + c / 16) % 16 + 256 * sC h m := by
  unfold sC
  rw [Nat.shiftRight_eq_div_pow, Nat.shiftRight_eq_div_pow, show c + 256 * h + (c + 256 * h) / 2 ^ 4 = (c + c / 16 + 16 * (h % 16)) + 256 * (h + h / 2 ^ 4) by omega, dg_and (by omega) (by omega), show (15 : Nat) = 2 ^ 4 - 1 from rfl, Nat.and_two_pow_sub_one_eq_mod]
  congr 1
  omega
theorem tAB : ∀ c, c < 256 → tA c < 256 ∧ tB (tA c) ≤ 68 ∧ tB (tA c) % 16 ≤ 4 ∧ (tB (tA c) + tB (tA c) / 16) % 16 = oa_cN c.testBit 8 := by decide +kernel
theorem oa_cN_split (f : Nat → Bool) (m : Nat) : ∀ k, oa_cN f (m + k) = oa_cN f m + oa_cN (fun j => f (m + j)) k
  | 0 => rfl
  | k + 1 => by
    show (if f (m + k) = true then oa_cN f (m + k) + 1 else oa_cN f (m + k)) = oa_cN f m + (if f (m + k) = true then oa_cN (fun j => f (m + j)) k + 1 else oa_cN (fun j => f (m + j)) k)
    rw [oa_cN_split f m k]
    split <;> omega
theorem oa_cN_cong {f g : Nat → Bool} : ∀ {n : Nat}, (∀ k, k < n → f k = g k) → oa_cN f n = oa_cN g n
  | 0, _ => rfl
  | n + 1, h => by
    show (if f n = true then oa_cN f n + 1 else oa_cN f n) = (if g n = true then oa_cN g n + 1 else oa_cN g n)
    rw [h n (by omega), oa_cN_cong (fun k hk => h k (by omega))]
theorem pc5 {c0 c1 c2 c3 c4 a : Nat} (h0 : c0 < 256) (h1 : c1 < 256) (h2 : c2 < 256) (h3 : c3 < 256) (h4 : c4 < 256) (ha : a = c0 + 256 * (c1 + 256 * (c2 + 256 * (c3 + 256 * (c4 + 256 * 0))))) : sC (sB (sA a 6148914691236517205) 3689348814741910323) 1085102592571150095 = oa_cN c0.testBit 8 + 256 * (oa_cN c1.testBit 8 + 256 * (oa_cN c2.testBit 8 + 256 * (oa_cN c3.testBit 8 + 256 * oa_cN c4.testBit 8))) := by
  obtain ⟨a0, b0, d0, e0⟩ := tAB c0 h0
  obtain ⟨a1, b1, d1, e1⟩ := tAB c1 h1
  obtain ⟨a2, b2, d2, e2⟩ := tAB c2 h2
  obtain ⟨a3, b3, d3, e3⟩ := tAB c3 h3
  obtain ⟨a4, b4, d4, e4⟩ := tAB c4 h4
  have zA : ∀ m, sA 0 m = 0 := fun m => by unfold sA; omega
  have zB : ∀ m, sB 0 m = 0 := fun m => by unfold sB; rw [Nat.zero_shiftRight, Nat.zero_and]
  have zC : ∀ m, sC 0 m = 0 := fun m => by unfold sC; rw [Nat.zero_shiftRight, Nat.zero_and]
  rw [ha, show (6148914691236517205 : Nat) = 85 + 256 * (85 + 256 * (85 + 256 * (85 + 256 * (85 + 256 * 5592405)))) from rfl, sA_s h0, sA_s h1, sA_s h2, sA_s h3, sA_s h4, zA]
  rw [show (3689348814741910323 : Nat) = 51 + 256 * (51 + 256 * (51 + 256 * (51 + 256 * (51 + 256 * 3355443)))) from rfl, sB_s a0, sB_s a1, sB_s a2, sB_s a3, sB_s a4, zB]
  generalize tB (tA c0) = t0 at b0 d0 e0
  generalize tB (tA c1) = t1 at b1 d1 e1
  generalize tB (tA c2) = t2 at b2 d2 e2
  generalize tB (tA c3) = t3 at b3 d3 e3
  generalize tB (tA c4) = t4 at b4 d4 e4
  rw [show (1085102592571150095 : Nat) = 15 + 256 * (15 + 256 * (15 + 256 * (15 + 256 * (15 + 256 * 986895)))) from rfl, sC_s _ b0 (by omega), sC_s _ b1 (by omega), sC_s _ b2 (by omega), sC_s _ b3 (by omega), sC_s _ b4 (by omega), zC, e0, e1, e2, e3, e4, Nat.mul_zero, Nat.add_zero]
theorem pc_sum {p0 p1 p2 p3 p4 D : Nat} (l0 : p0 ≤ 8) (l1 : p1 ≤ 8) (l2 : p2 ≤ 8) (l3 : p3 ≤ 8) (l4 : p4 ≤ 8) (key : D = p0 + 256 * (p1 + 256 * (p2 + 256 * (p3 + 256 * p4)))) : (D + D / 2 ^ 8 + (D + D / 2 ^ 8) / 2 ^ 16 + (D + D / 2 ^ 8 + (D + D / 2 ^ 8) / 2 ^ 16) / 2 ^ 32) % 128 = p0 + p1 + p2 + p3 + p4 := by
  have e1 : D / 2 ^ 8 = p1 + 256 * (p2 + 256 * (p3 + 256 * p4)) := by omega
  rw [e1]
  have e2 : (D + (p1 + 256 * (p2 + 256 * (p3 + 256 * p4)))) / 2 ^ 16 = (p2 + p3) + 256 * ((p3 + p4) + 256 * p4) := by omega
  rw [e2]
  have e3 : (D + (p1 + 256 * (p2 + 256 * (p3 + 256 * p4))) + ((p2 + p3) + 256 * ((p3 + p4) + 256 * p4))) / 2 ^ 32 = p4 := by omega
  rw [e3]
  omega
theorem pcL_lN {a : Nat} (ha : a < 2 ^ 40) : f_J13_bitCount_95d88 (lN a) = some (nI (oa_cN a.testBit 40)) := by
  have hd : a = a % 256 + 256 * (a / 256 % 256 + 256 * (a / 65536 % 256 + 256 * (a / 16777216 % 256 + 256 * (a / 4294967296 % 256 + 256 * 0)))) := by omega
  have key := pc5 (Nat.mod_lt _ (by omega)) (Nat.mod_lt _ (by omega)) (Nat.mod_lt _ (by omega)) (Nat.mod_lt _ (by omega)) (Nat.mod_lt _ (by omega)) hd
  have hb : ∀ i, oa_cN (a / 2 ^ (8 * i) % 256).testBit 8 = oa_cN (fun j => a.testBit (8 * i + j)) 8 := by
    intro i
    refine oa_cN_cong fun j hj => ?_
    rw [show (256 : Nat) = 2 ^ 8 from rfl, Nat.testBit_mod_two_pow, decide_eq_true hj, ← Nat.shiftRight_eq_div_pow, Nat.testBit_shiftRight]; rfl
  have q0 : oa_cN (a % 256).testBit 8 = oa_cN a.testBit 8 := by
    refine oa_cN_cong fun j hj => ?_
    rw [show (256 : Nat) = 2 ^ 8 from rfl, Nat.testBit_mod_two_pow, decide_eq_true hj]; rfl
  have q1 : oa_cN (a / 256 % 256).testBit 8 = oa_cN (fun j => a.testBit (8 + j)) 8 := hb 1
  have q2 : oa_cN (a / 65536 % 256).testBit 8 = oa_cN (fun j => a.testBit (16 + j)) 8 := hb 2
  have q3 : oa_cN (a / 16777216 % 256).testBit 8 = oa_cN (fun j => a.testBit (24 + j)) 8 := hb 3
  have q4 : oa_cN (a / 4294967296 % 256).testBit 8 = oa_cN (fun j => a.testBit (32 + j)) 8 := hb 4
  have hs : oa_cN a.testBit 40 = oa_cN (a % 256).testBit 8 + oa_cN (a / 256 % 256).testBit 8 + oa_cN (a / 65536 % 256).testBit 8 + oa_cN (a / 16777216 % 256).testBit 8 + oa_cN (a / 4294967296 % 256).testBit 8 := by
    have s1 : oa_cN a.testBit 40 = _ := oa_cN_split a.testBit 32 8
    have s2 : oa_cN a.testBit 32 = _ := oa_cN_split a.testBit 24 8
    have s3 : oa_cN a.testBit 24 = _ := oa_cN_split a.testBit 16 8
    have s4 : oa_cN a.testBit 16 = _ := oa_cN_split a.testBit 8 8
    rw [s1, s2, s3, s4, q0, q1, q2, q3, q4]
  have l0 := oa_cN_le (a % 256).testBit 8
  have l1 := oa_cN_le (a / 256 % 256).testBit 8
  have l2 := oa_cN_le (a / 65536 % 256).testBit 8
  have l3 := oa_cN_le (a / 16777216 % 256).testBit 8
  have l4 := oa_cN_le (a / 4294967296 % 256).testBit 8
  have m1 : (6148914691236517205 : Int64) = lN 6148914691236517205 := rfl
  have m2 : (3689348814741910323 : Int64) = lN 3689348814741910323 := rfl
  have m3 : (1085102592571150095 : Int64) = lN 1085102592571150095 := rfl
  have y1 : lN a - (((lN a).toUInt64 >>> (Int64.toUInt64 (Int32.toInt64 1) &&& Int64.toUInt64 63)).toInt64 &&& 6148914691236517205) = lN (sA a 6148914691236517205) := by
    rw [lN_shr1 (by omega), m1, lN_and, lN_sub (Nat.le_trans Nat.and_le_left (by rw [Nat.shiftRight_eq_div_pow]; omega))]
    rfl
  have b1 : sA a 6148914691236517205 < 2 ^ 40 := Nat.lt_of_le_of_lt (Nat.sub_le _ _) ha
  generalize sA a 6148914691236517205 = A at y1 b1 key
  have y2 : (lN A &&& 3689348814741910323) + (((lN A).toUInt64 >>> (Int64.toUInt64 (Int32.toInt64 2) &&& Int64.toUInt64 63)).toInt64 &&& 3689348814741910323) = lN (sB A 3689348814741910323) := by
    rw [lN_shr2 (by omega), m2, lN_and, lN_and, lN_add]
    rfl
  have b2 : sB A 3689348814741910323 < 2 ^ 42 := by
    unfold sB
    have g1 : A &&& 3689348814741910323 ≤ A := Nat.and_le_left
    have g2 : (A >>> 2) &&& 3689348814741910323 ≤ A := Nat.le_trans Nat.and_le_left (by rw [Nat.shiftRight_eq_div_pow]; omega)
    omega
  generalize sB A 3689348814741910323 = C at y2 b2 key
  have y3 : (lN C + ((lN C).toUInt64 >>> (Int64.toUInt64 (Int32.toInt64 4) &&& Int64.toUInt64 63)).toInt64) &&& 1085102592571150095 = lN (sC C 1085102592571150095) := by
    rw [lN_shr4 (by omega), m3, lN_add, lN_and]
    rfl
  generalize sC C 1085102592571150095 = D at y3 key
  generalize oa_cN (a % 256).testBit 8 = p0 at key hs l0
  generalize oa_cN (a / 256 % 256).testBit 8 = p1 at key hs l1
  generalize oa_cN (a / 65536 % 256).testBit 8 = p2 at key hs l2
  generalize oa_cN (a / 16777216 % 256).testBit 8 = p3 at key hs l3
  generalize oa_cN (a / 4294967296 % 256).testBit 8 = p4 at key hs l4
  have b3 : D < 2 ^ 40 := by omega
  unfold f_J13_bitCount_95d88
  simp only [oa_lt]
  rw [y1, y2, y3, lN_shr8 (by omega), lN_add, Nat.shiftRight_eq_div_pow, lN_shr16 (by omega), lN_add, Nat.shiftRight_eq_div_pow, lN_shr32 (by omega), lN_add, Nat.shiftRight_eq_div_pow, lN_i, nI_127]
  refine congrArg (fun v => some (nI v)) ?_
  rw [hs]
  exact pc_sum l0 l1 l2 l3 l4 key
/-- the pairs, counted -/
theorem omk_num (f : Nat → Nat → Bool) {n : Nat} (h6 : n ≤ 6) : ∃ a, a < 2 ^ 40 ∧ omk f n = lN a ∧ ∀ i, i < 64 → a.testBit i = (decide (i / 6 < n) && decide (i % 6 < n) && f (i / 6) (i % 6)) := by
  have hb : ∀ i, i < 64 → (omk f n).toBitVec.toNat.testBit i = (decide (i / 6 < n) && decide (i % 6 < n) && f (i / 6) (i % 6)) := fun i hi => omk_bt h6 hi
  refine ⟨(omk f n).toBitVec.toNat, ?_, ?_, hb⟩
  · apply Nat.lt_pow_two_of_testBit
    intro i hi
    by_cases l : i < 64
    · rw [hb i l, decide_eq_false (show ¬ i / 6 < n by omega)]; rfl
    · exact btL_big (x := omk f n) (by omega)
  · apply Int64.toBitVec_inj.mp
    show _ = BitVec.ofNat 64 _
    rw [BitVec.ofNat_toNat, BitVec.setWidth_eq]
theorem cN_low {f : Nat → Bool} {n : Nat} : ∀ j, oa_cN (fun q => decide (q < n) && f q) (n + j) = oa_cN f n
  | 0 => oa_cN_cong (n := n) fun k hk => by rw [decide_eq_true hk]; rfl
  | j + 1 => by
    show (if (decide (n + j < n) && f (n + j)) = true then _ else _) = _
    rw [decide_eq_false (show ¬ n + j < n by omega), Bool.false_and, if_neg (by decide)]
    exact cN_low j
theorem cN_zero (m : Nat) : oa_cN (fun _ => false) m = 0 := oa_cN_0.mpr fun _ _ => rfl
theorem pcL_omk (f : Nat → Nat → Bool) {n : Nat} (h6 : n ≤ 6) : f_J13_bitCount_95d88 (omk f n) = some (cnt2 f n) := by
  obtain ⟨a, a1, a2, a3⟩ := omk_num f h6
  rw [a2, pcL_lN a1, cnt2_nI]
  refine congrArg (fun v => some (nI v)) ?_
  have hrow : ∀ p, p < 6 → oa_cN (fun j => a.testBit (6 * p + j)) 6 = if p < n then oa_cN (f p) n else 0 := by
    intro p hp
    have e : oa_cN (fun j => a.testBit (6 * p + j)) 6 = oa_cN (fun q => decide (p < n) && (decide (q < n) && f p q)) 6 := by
      refine oa_cN_cong fun j hj => ?_
      rw [a3 _ (by omega), show (6 * p + j) / 6 = p by omega, show (6 * p + j) % 6 = j by omega, Bool.and_assoc]
    rw [e]
    by_cases l : p < n
    · rw [if_pos l]
      obtain ⟨d, hd⟩ : ∃ d, 6 = n + d := ⟨6 - n, by omega⟩
      have := cN_low (f := f p) (n := n) d
      rw [← hd] at this
      rw [← this]
      exact oa_cN_cong fun q _ => by rw [decide_eq_true l]; rfl
    · rw [if_neg l]
      refine oa_cN_0.mpr fun q _ => ?_
      rw [decide_eq_false l]; rfl
  have htail : oa_cN (fun j => a.testBit (36 + j)) 4 = 0 := by
    refine oa_cN_0.mpr fun j hj => ?_
    rw [a3 _ (by omega), decide_eq_false (show ¬ (36 + j) / 6 < n by omega)]; rfl
  have hc : ∀ p, p ≤ 6 → oa_cN a.testBit (6 * p) = c2N f n (if p < n then p else n) := by
    intro p
    induction p with
    | zero =>
      intro _
      rcases Nat.eq_zero_or_pos n with e | e
      · rw [e]; rfl
      · rw [if_pos e]; rfl
    | succ p ih =>
      intro hp
      have s := oa_cN_split a.testBit (6 * p) 6
      rw [show 6 * (p + 1) = 6 * p + 6 by omega, s, ih (by omega), hrow p (by omega)]
      by_cases l : p < n
      · rw [if_pos l, if_pos l]
        by_cases l2 : p + 1 < n
        · rw [if_pos l2]; rfl
        · rw [if_neg l2, show n = p + 1 by omega]; rfl
      · rw [if_neg l, if_neg l, if_neg (by omega), Nat.add_zero]
  have s : oa_cN a.testBit 40 = _ := oa_cN_split a.testBit 36 4
  have := hc 6 (by omega)
  rw [if_neg (by omega)] at this
  rw [s, htail, show (36 : Nat) = 6 * 6 from rfl, this, Nat.add_zero]
