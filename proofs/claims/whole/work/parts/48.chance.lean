/-! by chances: sums over what may be seen -/
def sm (f : Nat → Int64) : Nat → Int64
  | 0 => 0
  | i + 1 => sm f i + f i
theorem sm_cong {f g : Nat → Int64} : ∀ {n : Nat}, (∀ k, k < n → f k = g k) → sm f n = sm g n
  | 0, _ => rfl
  | n + 1, h => by
    show sm f n + f n = sm g n + g n
    rw [sm_cong (fun k hk => h k (by omega)), h n (by omega)]
theorem sm_split (f : Nat → Int64) (m : Nat) : ∀ k, sm f (m + k) = sm f m + sm (fun j => f (m + j)) k
  | 0 => (Int64.add_zero _).symm
  | k + 1 => by
    show sm f (m + k) + f (m + k) = sm f m + (sm (fun j => f (m + j)) k + f (m + k))
    rw [sm_split f m k, Int64.add_assoc]
theorem tb_one (i : Nat) : (1 : Nat).testBit i = decide (i = 0) := by
  by_cases e : i = 0
  · subst e; rfl
  · rw [decide_eq_false e]
    cases h : Nat.testBit 1 i
    · rfl
    · exact absurd (Nat.testBit_one_eq_true_iff_self_eq_zero.mp h) e
theorem xor_hi {n s c : Nat} (hs : s < 2 ^ n) (hc : c < 2 ^ n) : (2 ^ n + s) ^^^ c = 2 ^ n + (s ^^^ c) ∧ s ^^^ (2 ^ n + c) = 2 ^ n + (s ^^^ c) ∧ (2 ^ n + s) ^^^ (2 ^ n + c) = s ^^^ c := by
  have hx : s ^^^ c < 2 ^ n := Nat.xor_lt_two_pow hs hc
  have tb : ∀ u, u < 2 ^ n → ∀ j, (2 ^ n + u).testBit j = if j < n then u.testBit j else decide (j = n) := by
    intro u hu j
    have := Nat.testBit_two_pow_mul_add 1 hu j
    rw [Nat.mul_one] at this
    rw [this]
    by_cases l : j < n
    · rw [if_pos l, if_pos l]
    · rw [if_neg l, if_neg l, tb_one, decide_eq_decide.mpr (show j - n = 0 ↔ j = n by omega)]
  have tz : ∀ u, u < 2 ^ n → ∀ j, ¬ j < n → u.testBit j = false := fun u hu j hj => Nat.testBit_lt_two_pow (Nat.lt_of_lt_of_le hu (Nat.pow_le_pow_right (by omega) (by omega)))
  refine ⟨?_, ?_, ?_⟩
  · apply Nat.eq_of_testBit_eq
    intro j
    rw [Nat.testBit_xor, tb s hs, tb _ hx, Nat.testBit_xor]
    by_cases l : j < n
    · rw [if_pos l, if_pos l]
    · rw [if_neg l, if_neg l, tz c hc j l, Bool.xor_false]
  · apply Nat.eq_of_testBit_eq
    intro j
    rw [Nat.testBit_xor, tb c hc, tb _ hx, Nat.testBit_xor]
    by_cases l : j < n
    · rw [if_pos l, if_pos l]
    · rw [if_neg l, if_neg l, tz s hs j l, Bool.false_xor]
  · apply Nat.eq_of_testBit_eq
    intro j
    rw [Nat.testBit_xor, tb s hs, tb c hc, Nat.testBit_xor]
    by_cases l : j < n
    · rw [if_pos l, if_pos l]
    · rw [if_neg l, if_neg l, tz s hs j l, tz c hc j l, Bool.xor_self]; rfl
theorem sm_xor : ∀ (n : Nat) (f : Nat → Int64) (c : Nat), c < 2 ^ n → sm (fun s => f (s ^^^ c)) (2 ^ n) = sm f (2 ^ n)
  | 0, f, c, h => by
    have : c = 0 := by omega
    subst this
    exact sm_cong fun k hk => by rw [Nat.xor_zero]
  | n + 1, f, c, h => by
    have e2 : 2 ^ (n + 1) = 2 ^ n + 2 ^ n := by rw [Nat.pow_succ]; omega
    rw [e2, sm_split, sm_split f]
    by_cases l : c < 2 ^ n
    · have h1 := sm_xor n f c l
      have h2 := sm_xor n (fun j => f (2 ^ n + j)) c l
      rw [h1, ← h2]
      congr 1
      exact sm_cong fun k hk => by rw [(xor_hi hk l).1]
    · obtain ⟨d, rfl⟩ : ∃ d, c = 2 ^ n + d := ⟨c - 2 ^ n, by omega⟩
      have hd : d < 2 ^ n := by omega
      have h1 := sm_xor n f d hd
      have h2 := sm_xor n (fun j => f (2 ^ n + j)) d hd
      rw [← h1, ← h2, Int64.add_comm]
      congr 1
      · exact sm_cong fun k hk => by rw [(xor_hi hk hd).2.2]
      · exact sm_cong fun k hk => by rw [(xor_hi hk hd).2.1]
theorem sm_mul (f : Nat → Int64) (c : Int64) : ∀ n, sm f n * c = sm (fun s => f s * c) n
  | 0 => Int64.zero_mul
  | n + 1 => by
    show (sm f n + f n) * c = sm (fun s => f s * c) n + f n * c
    rw [Int64.add_mul, sm_mul f c n]
theorem sm_zero (n : Nat) : sm (fun _ => 0) n = 0 := by
  induction n with
  | zero => rfl
  | succ n ih =>
    show sm (fun _ => 0) n + 0 = 0
    rw [ih]; rfl
theorem sm_add (f g : Nat → Int64) : ∀ n, sm f n + sm g n = sm (fun s => f s + g s) n
  | 0 => rfl
  | n + 1 => by
    show sm f n + f n + (sm g n + g n) = sm (fun s => f s + g s) n + (f n + g n)
    rw [← sm_add f g n, Int64.add_assoc, Int64.add_assoc, ← Int64.add_assoc (f n), ← Int64.add_assoc (sm g n), Int64.add_comm (f n) (sm g n)]
theorem sm_swap (f : Nat → Nat → Int64) (m : Nat) : ∀ n, sm (fun q => sm (f q) m) n = sm (fun s => sm (fun q => f q s) n) m
  | 0 => (sm_zero m).symm
  | n + 1 => by
    show sm (fun q => sm (f q) m) n + sm (f n) m = sm (fun s => sm (fun q => f q s) n + f n s) m
    rw [sm_swap f m n, sm_add]
theorem sm_one {x : Nat → Int64} {q0 : Nat} : ∀ n, n < 2 ^ 31 → q0 < 2 ^ 31 → sm (fun q => if nI q0 = nI q then x q else 0) n = if q0 < n then x q0 else 0
  | 0, _, _ => by rw [if_neg (by omega)]; rfl
  | n + 1, h, h2 => by
    show sm (fun q => if nI q0 = nI q then x q else 0) n + (if nI q0 = nI n then x n else 0) = _
    rw [sm_one n (by omega) h2]
    by_cases e : q0 = n
    · rw [e, if_neg (by omega), if_pos rfl, if_pos (by omega), Int64.zero_add]
    · rw [if_neg (fun d => e ((nI_eq (by omega) (by omega)).mp d)), Int64.add_zero]
      by_cases l : q0 < n
      · rw [if_pos l, if_pos (by omega)]
      · rw [if_neg l, if_neg (by omega)]
/-- powers -/
def pwL (x : Int64) : Nat → Int64
  | 0 => 1
  | k + 1 => pwL x k * x
theorem mul_r1 (a b c : Int64) : a * b * c = a * c * b := by rw [Int64.mul_assoc, Int64.mul_comm b c, ← Int64.mul_assoc]
