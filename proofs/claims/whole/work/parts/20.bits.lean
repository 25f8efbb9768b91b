/-! bits (the first family pasted from kit/laws/BITS.to-paste), masks of people -/
def bt (x : Int32) (i : Nat) : Bool := x.toBitVec.getLsbD i
theorem b_ext {x y : Int32} (h : ∀ i, i < 32 → bt x i = bt y i) : x = y := Int32.toBitVec_inj.mp (BitVec.eq_of_getLsbD_eq (fun i hi => h i hi))
theorem b_or (x y : Int32) (i : Nat) : bt (x ||| y) i = (bt x i || bt y i) := by unfold bt; rw [Int32.toBitVec_or, BitVec.getLsbD_or]
theorem b_and (x y : Int32) (i : Nat) : bt (x &&& y) i = (bt x i && bt y i) := by unfold bt; rw [Int32.toBitVec_and, BitVec.getLsbD_and]
theorem b_xor (x y : Int32) (i : Nat) : bt (x ^^^ y) i = (bt x i ^^ bt y i) := by unfold bt; rw [Int32.toBitVec_xor, BitVec.getLsbD_xor]
theorem b_big {x : Int32} {i : Nat} (h : 32 ≤ i) : bt x i = false := BitVec.getLsbD_of_ge _ _ h
theorem b_255 (i : Nat) : bt 255 i = decide (i < 8) := by
  rcases Nat.lt_or_ge i 32 with h | h
  · exact (by decide +kernel : ∀ i, i < 32 → bt 255 i = decide (i < 8)) i h
  · rw [b_big h, decide_eq_false (by omega)]
theorem b_65535 (i : Nat) : bt 65535 i = decide (i < 16) := by
  rcases Nat.lt_or_ge i 32 with h | h
  · exact (by decide +kernel : ∀ i, i < 32 → bt 65535 i = decide (i < 16)) i h
  · rw [b_big h, decide_eq_false (by omega)]
theorem b_m1 : ∀ i, i < 32 → bt (-1) i = true := by decide +kernel
theorem b_0 (i : Nat) : bt 0 i = false := BitVec.getLsbD_zero
theorem s_l : ∀ n, n < 32 → ((nI n &&& 31).toBitVec.smod 32).toNat = n := by decide +kernel
theorem s_u : ∀ n, n < 32 → (((nI n).toUInt32 &&& Int32.toUInt32 31).toBitVec % 32).toNat = n := by decide +kernel
theorem b_shl (n : Nat) (hn : n < 32) (x : Int32) {i : Nat} (hi : i < 32) : bt (x <<< (nI n &&& 31)) i = (decide (n ≤ i) && bt x (i - n)) := by
  unfold bt
  rw [Int32.toBitVec_shiftLeft]
  show (x.toBitVec <<< ((nI n &&& 31).toBitVec.smod 32).toNat).getLsbD i = _
  rw [s_l n hn, BitVec.getLsbD_shiftLeft]
  rcases Nat.lt_or_ge i n with h | h
  · simp [h, Nat.not_le.mpr h]
  · simp [hi, h, Nat.not_lt.mpr h]
theorem b_ushr (n : Nat) (hn : n < 32) (x : Int32) (i : Nat) : bt ((x.toUInt32 >>> ((nI n).toUInt32 &&& Int32.toUInt32 31)).toInt32) i = bt x (n + i) := by
  show (x.toUInt32 >>> ((nI n).toUInt32 &&& Int32.toUInt32 31)).toBitVec.getLsbD i = x.toUInt32.toBitVec.getLsbD (n + i)
  rw [UInt32.toBitVec_shiftRight]
  show (x.toUInt32.toBitVec >>> (((nI n).toUInt32 &&& Int32.toUInt32 31).toBitVec % 32).toNat).getLsbD i = _
  rw [s_u n hn, BitVec.getLsbD_ushiftRight]
theorem b_sshr (n : Nat) (hn : n < 32) (x : Int32) {i : Nat} (hi : i < 32) : bt (x >>> (nI n &&& 31)) i = if n + i < 32 then bt x (n + i) else bt x 31 := by
  unfold bt
  rw [Int32.toBitVec_shiftRight]
  show (x.toBitVec.sshiftRight ((nI n &&& 31).toBitVec.smod 32).toNat).getLsbD i = _
  rw [s_l n hn, BitVec.getLsbD_sshiftRight, BitVec.msb_eq_getLsbD_last]
  simp [hi]
theorem b_shl8 (x : Int32) {i : Nat} (hi : i < 32) : bt (x <<< ((8 : Int32) &&& 31)) i = (decide (8 ≤ i) && bt x (i - 8)) := b_shl 8 (by omega) x hi
theorem b_shl16 (x : Int32) {i : Nat} (hi : i < 32) : bt (x <<< ((16 : Int32) &&& 31)) i = (decide (16 ≤ i) && bt x (i - 16)) := b_shl 16 (by omega) x hi
theorem b_shl24 (x : Int32) {i : Nat} (hi : i < 32) : bt (x <<< ((24 : Int32) &&& 31)) i = (decide (24 ≤ i) && bt x (i - 24)) := b_shl 24 (by omega) x hi
theorem b_sshr8 (x : Int32) {i : Nat} (hi : i < 32) : bt (x >>> ((8 : Int32) &&& 31)) i = if 8 + i < 32 then bt x (8 + i) else bt x 31 := b_sshr 8 (by omega) x hi
theorem oa_b1 : ∀ r, r < 32 → ∀ i, i < 32 → bt ((1 : Int32) <<< (nI r &&& 31)) i = decide (i = r) := by decide +kernel
/-- people for whom f holds, as bits: just what a loop makes -/
def oa_mk (f : Nat → Bool) : Nat → Int32
  | 0 => 0
  | k + 1 => if f k then oa_mk f k ||| ((1 : Int32) <<< (nI k &&& 31)) else oa_mk f k
theorem oa_mk_bt (f : Nat → Bool) : ∀ n, n ≤ 32 → ∀ i, i < 32 → bt (oa_mk f n) i = (decide (i < n) && f i)
  | 0, _, i, _ => by simp [oa_mk, b_0]
  | n + 1, hn, i, hi => by
    have ih := oa_mk_bt f n (by omega) i hi
    unfold oa_mk
    by_cases h : f n = true
    · rw [if_pos h, b_or, ih, oa_b1 n (by omega) i hi]
      by_cases e : i = n
      · subst e; simp [h]
      · by_cases l : i < n
        · simp [l, e, show i < n + 1 by omega]
        · simp [l, e, show ¬ i < n + 1 by omega]
    · rw [if_neg h, ih]
      by_cases e : i = n
      · subst e; simp [h]
      · by_cases l : i < n
        · simp [l, show i < n + 1 by omega]
        · simp [l, show ¬ i < n + 1 by omega]
/-- one bit, asked as the code asks -/
theorem oa_ask (x : Int32) {r : Nat} (hr : r < 32) : ((x >>> (nI r &&& 31)) &&& 1) = if bt x r then 1 else 0 := by
  apply b_ext
  intro i hi
  rw [b_and, b_sshr r hr x hi]
  have h1 : bt 1 i = decide (i = 0) := (show ∀ i, i < 32 → bt (1 : Int32) i = decide (i = 0) by decide +kernel) i hi
  rw [h1]
  by_cases e : i = 0
  · subst e
    rw [if_pos (by omega)]
    cases hb : bt x r
    · simp [hb, b_0]
    · simp [hb]; decide
  · have h0 : bt (if bt x r = true then (1 : Int32) else 0) i = false := by
      cases bt x r
      · exact b_0 i
      · show bt 1 i = false
        rw [h1]; simp [e]
    rw [h0]; simp [e]
theorem oa_ask0 (x : Int32) {r : Nat} (hr : r < 32) : ((x >>> (nI r &&& 31)) &&& 1) = 0 ↔ bt x r = false := by
  rw [oa_ask x hr]
  cases bt x r
  · simp
  · simp
theorem oa_ask1 (x : Int32) {r : Nat} (hr : r < 32) : ((x >>> (nI r &&& 31)) &&& 1) = 1 ↔ bt x r = true := by
  rw [oa_ask x hr]
  cases bt x r
  · simp
  · simp
theorem oa_mk_cong {f g : Nat → Bool} : ∀ {n : Nat}, (∀ k, k < n → f k = g k) → oa_mk f n = oa_mk g n
  | 0, _ => rfl
  | n + 1, h => by
    unfold oa_mk
    rw [h n (by omega), oa_mk_cong (fun k hk => h k (by omega))]
theorem oa_mk_and (f g : Nat → Bool) {n : Nat} (hn : n ≤ 32) : oa_mk f n &&& oa_mk g n = oa_mk (fun r => f r && g r) n := by
  apply b_ext
  intro i hi
  rw [b_and, oa_mk_bt f n hn i hi, oa_mk_bt g n hn i hi, oa_mk_bt _ n hn i hi]
  cases decide (i < n) <;> simp
theorem oa_mk_andn (f g : Nat → Bool) {n : Nat} (hn : n ≤ 32) : oa_mk f n &&& (oa_mk g n ^^^ (-1)) = oa_mk (fun r => f r && !g r) n := by
  apply b_ext
  intro i hi
  rw [b_and, b_xor, b_m1 i hi, oa_mk_bt f n hn i hi, oa_mk_bt g n hn i hi, oa_mk_bt _ n hn i hi]
  cases decide (i < n) <;> simp
theorem oa_mk_and1 (f : Nat → Bool) {n p : Nat} (hn : n ≤ 32) (hp : p < 32) : oa_mk f n &&& (((1 : Int32) <<< (nI p &&& 31)) ^^^ (-1)) = oa_mk (fun r => f r && !decide (r = p)) n := by
  apply b_ext
  intro i hi
  rw [b_and, b_xor, b_m1 i hi, oa_b1 p hp i hi, oa_mk_bt f n hn i hi, oa_mk_bt _ n hn i hi]
  by_cases e : i = p
  · subst e; simp
  · simp [e]
