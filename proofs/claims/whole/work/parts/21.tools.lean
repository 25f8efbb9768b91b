/-! loops with a relation; numbers; bits as they are asked -/
theorem oa_forR {α β : Type} {F : (α → Option β) → α → Option β} (Q : Option β → Prop) (Rl : Nat → α → Prop) (N : Nat) {s0 : α} (h0 : Rl 0 s0) (hs : ∀ i, i < N → ∀ s, Rl i s → (∃ s', Rl (i + 1) s' ∧ ∀ k, F k s = k s') ∨ (∃ o, Q o ∧ ∀ k, F k s = o)) (he : ∀ s, Rl N s → ∃ o, Q o ∧ ∀ k, F k s = o) : ∀ fuel, N < fuel → Q (oa_fix F fuel s0) := by
  have key : ∀ j i fuel s, i + j = N → j < fuel → Rl i s → Q (oa_fix F fuel s) := by
    intro j
    induction j with
    | zero =>
      intro i fuel s h1 h2 h3
      obtain ⟨f, rfl⟩ : ∃ f, fuel = f + 1 := ⟨fuel - 1, by omega⟩
      have : i = N := by omega
      subst this
      obtain ⟨o, ho, hk⟩ := he s h3
      show Q (F (oa_fix F f) s)
      rw [hk]; exact ho
    | succ j ih =>
      intro i fuel s h1 h2 h3
      obtain ⟨f, rfl⟩ : ∃ f, fuel = f + 1 := ⟨fuel - 1, by omega⟩
      show Q (F (oa_fix F f) s)
      rcases hs i (by omega) s h3 with ⟨s', h4, h5⟩ | ⟨o, ho, hk⟩
      · rw [h5]; exact ih (i + 1) f s' (by omega) (by omega) h4
      · rw [hk]; exact ho
  intro fuel h
  exact key N 0 fuel s0 (by omega) h h0
theorem oa_l2 : (2 : Int32) = nI 2 := Eq.trans rfl rfl
theorem oa_l3 : (3 : Int32) = nI 3 := Eq.trans rfl rfl
theorem oa_l4 : (4 : Int32) = nI 4 := Eq.trans rfl rfl
theorem oa_l5 : (5 : Int32) = nI 5 := Eq.trans rfl rfl
theorem oa_l6 : (6 : Int32) = nI 6 := Eq.trans rfl rfl
theorem oa_l7 : (7 : Int32) = nI 7 := Eq.trans rfl rfl
theorem oa_l8 : (8 : Int32) = nI 8 := Eq.trans rfl rfl
theorem oa_l9 : (9 : Int32) = nI 9 := Eq.trans rfl rfl
theorem oa_l10 : (10 : Int32) = nI 10 := Eq.trans rfl rfl
theorem oa_l12 : (12 : Int32) = nI 12 := Eq.trans rfl rfl
theorem oa_l15 : (15 : Int32) = nI 15 := Eq.trans rfl rfl
theorem oa_l16 : (16 : Int32) = nI 16 := Eq.trans rfl rfl
theorem oa_l20 : (20 : Int32) = nI 20 := Eq.trans rfl rfl
theorem oa_l32 : (32 : Int32) = nI 32 := Eq.trans rfl rfl
theorem oa_l40 : (40 : Int32) = nI 40 := Eq.trans rfl rfl
theorem oa_l42 : (42 : Int32) = nI 42 := Eq.trans rfl rfl
theorem oa_l48 : (48 : Int32) = nI 48 := Eq.trans rfl rfl
theorem oa_l64 : (64 : Int32) = nI 64 := Eq.trans rfl rfl
theorem oa_l90 : (90 : Int32) = nI 90 := Eq.trans rfl rfl
theorem oa_l96 : (96 : Int32) = nI 96 := Eq.trans rfl rfl
theorem oa_l97 : (97 : Int32) = nI 97 := Eq.trans rfl rfl
theorem oa_l98 : (98 : Int32) = nI 98 := Eq.trans rfl rfl
theorem oa_l99 : (99 : Int32) = nI 99 := Eq.trans rfl rfl
theorem oa_l100 : (100 : Int32) = nI 100 := Eq.trans rfl rfl
theorem oa_l120 : (120 : Int32) = nI 120 := Eq.trans rfl rfl
theorem oa_l360 : (360 : Int32) = nI 360 := Eq.trans rfl rfl
theorem oa_l450 : (450 : Int32) = nI 450 := Eq.trans rfl rfl
theorem oa_l457 : (457 : Int32) = nI 457 := Eq.trans rfl rfl
theorem oa_l458 : (458 : Int32) = nI 458 := Eq.trans rfl rfl
theorem oa_l480 : (480 : Int32) = nI 480 := Eq.trans rfl rfl
theorem oa_l528 : (528 : Int32) = nI 528 := Eq.trans rfl rfl
/-- none: -4 -/
def oNO : Int32 := -4
theorem oa_neg4 : -nI 4 = oNO := Eq.trans rfl rfl
theorem oa_10 : ((1 : Int32) = 0) = False := eq_false (by decide)
theorem oa_01 : ((0 : Int32) = 1) = False := eq_false (by decide)
section
variable {α : Type} {x y : α}
theorem oa_ile {a b : Nat} (h : a ≤ b) (hb : b < 2 ^ 31) : (if nI a ≤ nI b then x else y) = x := if_pos (nI_le h hb)
theorem oa_inle {a b : Nat} (h : b < a) (hb : a < 2 ^ 31) : (if nI a ≤ nI b then x else y) = y := if_neg (nI_ge h hb)
theorem oa_ilt {a b : Nat} (h : a < b) (hb : b < 2 ^ 31) : (if nI a < nI b then x else y) = x := if_pos (nI_lt h hb)
theorem oa_inlt {a b : Nat} (h : b ≤ a) (hb : a < 2 ^ 31) : (if nI a < nI b then x else y) = y := if_neg (nI_nlt h hb)
theorem oa_ieq {a b : Nat} (h : a = b) : (if nI a = nI b then x else y) = x := if_pos (by rw [h])
theorem oa_ineq {a b : Nat} (h : a ≠ b) (ha : a < 2 ^ 31) (hb : b < 2 ^ 31) : (if nI a = nI b then x else y) = y := if_neg (fun e => h ((nI_eq ha hb).mp e))
theorem oa_no {q : Nat} (h : q < 2 ^ 31) : ¬ nI q = oNO := by
  intro c
  have := congrArg Int32.toInt c
  rw [nI_toInt h] at this
  have e : oNO.toInt = -4 := by decide
  omega
theorem oa_ifno {q : Nat} (h : q < 2 ^ 31) : (if nI q = oNO then x else y) = y := if_neg (oa_no h)
def oa_bi (c : Bool) : Int32 := if c then 1 else 0
theorem oa_bi_if0 (c : Bool) : (if oa_bi c = 0 then x else y) = if c = true then y else x := by
  cases c
  · rw [if_pos (by decide), if_neg (by decide)]
  · rw [if_neg (by decide), if_pos (by decide)]
theorem oa_bi_if1 (c : Bool) : (if oa_bi c = 1 then x else y) = if c = true then x else y := by
  cases c
  · rw [if_neg (by decide), if_neg (by decide)]
  · rw [if_pos (by decide), if_pos (by decide)]
theorem oa_if_b0 (z : Int32) {r : Nat} (hr : r < 32) : (if ((z >>> (nI r &&& 31)) &&& 1) = 0 then x else y) = if bt z r = true then y else x := by
  cases h : bt z r
  · rw [if_pos ((oa_ask0 z hr).mpr h), if_neg (by decide)]
  · rw [if_neg (fun e => by rw [(oa_ask0 z hr).mp e] at h; cases h), if_pos rfl]
theorem oa_if_b1 (z : Int32) {r : Nat} (hr : r < 32) : (if ((z >>> (nI r &&& 31)) &&& 1) = 1 then x else y) = if bt z r = true then x else y := by
  cases h : bt z r
  · rw [if_neg (fun e => by rw [(oa_ask1 z hr).mp e] at h; cases h), if_neg (by decide)]
  · rw [if_pos ((oa_ask1 z hr).mpr h), if_pos rfl]
end
theorem oa_zc_bi (c : Bool) : oa_zc (oa_bi c) = some (oa_bi c) := by cases c <;> rfl
theorem oa_rd_0 {f : Nat → Int32} {n : Nat} (h : 0 < n) (hn : n < 2 ^ 31) : oa_rd f n 0 = some (f 0) := oa_rd_nI (i := 0) h hn
theorem oa_rd_1 {f : Nat → Int32} {n : Nat} (h : 1 < n) (hn : n < 2 ^ 31) : oa_rd f n 1 = some (f 1) := oa_rd_nI (i := 1) h hn
theorem oa_wr_0 {f : Nat → Int32} {n : Nat} {x : Int32} (h : 0 < n) (hn : n < 2 ^ 31) : oa_wr f n 0 x = some (upd f 0 x) := oa_wr_nI (i := 0) h hn
theorem oa_wr_1 {f : Nat → Int32} {n : Nat} {x : Int32} (h : 1 < n) (hn : n < 2 ^ 31) : oa_wr f n 1 x = some (upd f 1 x) := oa_wr_nI (i := 1) h hn
theorem va_up_s {α : Type} (f : Nat → α) (k : Nat) (x : α) : va_up f k x k = x := if_pos rfl
theorem va_up_n {α : Type} (f : Nat → α) {k j : Nat} (x : α) (h : j ≠ k) : va_up f k x j = f j := if_neg h
theorem upd_s (f : Nat → Int32) (k : Nat) (x : Int32) : upd f k x k = x := if_pos rfl
theorem upd_n (f : Nat → Int32) {k j : Nat} (x : Int32) (h : j ≠ k) : upd f k x j = f j := if_neg h
theorem upd_at (f : Nat → Int32) (k j : Nat) (x : Int32) : upd f k x j = if j = k then x else f j := rfl
theorem upd_id (f : Nat → Int32) (k : Nat) : upd f k (f k) = f := by
  funext j
  unfold upd
  by_cases h : j = k
  · rw [if_pos h, h]
  · rw [if_neg h]
theorem upd_upd (f : Nat → Int32) (k : Nat) (x y : Int32) : upd (upd f k x) k y = upd f k y := by
  funext j
  unfold upd
  by_cases h : j = k
  · rw [if_pos h, if_pos h]
  · rw [if_neg h, if_neg h, if_neg h]
theorem oa_mk_succ (f : Nat → Bool) (i : Nat) : oa_mk f (i + 1) = if f i = true then oa_mk f i ||| ((1 : Int32) <<< (nI i &&& 31)) else oa_mk f i := rfl
/-- how many of the first k -/
def oa_cn (f : Nat → Bool) : Nat → Int32
  | 0 => 0
  | k + 1 => if f k = true then oa_cn f k + 1 else oa_cn f k
theorem oa_cn_succ (f : Nat → Bool) (i : Nat) : oa_cn f (i + 1) = if f i = true then oa_cn f i + 1 else oa_cn f i := rfl
theorem oa_cn_cong {f g : Nat → Bool} : ∀ {n : Nat}, (∀ k, k < n → f k = g k) → oa_cn f n = oa_cn g n
  | 0, _ => rfl
  | n + 1, h => by
    unfold oa_cn
    rw [h n (by omega), oa_cn_cong (fun k hk => h k (by omega))]
/-- the same as a number -/
def oa_cN (f : Nat → Bool) : Nat → Nat
  | 0 => 0
  | k + 1 => if f k = true then oa_cN f k + 1 else oa_cN f k
theorem oa_cN_le (f : Nat → Bool) : ∀ n, oa_cN f n ≤ n
  | 0 => Nat.le_refl 0
  | n + 1 => by
    have := oa_cN_le f n
    unfold oa_cN
    split <;> omega
theorem oa_cn_nI (f : Nat → Bool) : ∀ n, oa_cn f n = nI (oa_cN f n)
  | 0 => rfl
  | n + 1 => by
    unfold oa_cn oa_cN
    rw [oa_cn_nI f n]
    cases f n
    · rfl
    · show nI _ + 1 = nI _
      rw [nI_1]; rfl
/-- the JDK's count of bits -/
noncomputable def oa_pc (x : Int32) : Int32 := (f_J6_bitCount_0f7a4 x).getD 0
theorem oa_pc_eq (x : Int32) : f_J6_bitCount_0f7a4 x = some (oa_pc x) := rfl
theorem oa_pc_mk7 (f : Nat → Bool) : oa_pc (oa_mk f 7) = oa_cn f 7 := by
  simp only [oa_mk_succ, oa_cn_succ]
  unfold oa_mk oa_cn
  cases f 0 <;> cases f 1 <;> cases f 2 <;> cases f 3 <;> cases f 4 <;> cases f 5 <;> cases f 6 <;> decide +kernel
theorem oa_pc_0 : oa_pc 0 = 0 := by decide +kernel
theorem oa_pc_192 : oa_pc 192 = 2 := by decide +kernel
/-- within bounds -/
def oa_wi (x lo hi : Int32) : Bool := decide (lo ≤ x) && decide (x ≤ hi)
theorem f_within (x lo hi : Int32) : f_X6_within x lo hi = some (oa_bi (oa_wi x lo hi)) := by
  unfold f_X6_within oa_wi
  by_cases h : x < lo
  · rw [if_pos h, decide_eq_false (Int32.not_le.mpr h)]; rfl
  · rw [if_neg h, decide_eq_true (Int32.not_lt.mp h)]
    by_cases h2 : hi < x
    · rw [if_pos h2, decide_eq_false (Int32.not_le.mpr h2)]; rfl
    · rw [if_neg h2, decide_eq_true (Int32.not_lt.mp h2)]; rfl
theorem oa_cmp_lt (x y : Int32) : (lg_cmp x.toInt64 y.toInt64 < 0) ↔ x < y := by
  unfold lg_cmp
  by_cases h : x.toInt64 > y.toInt64
  · rw [if_pos h]
    have h2 : y < x := by
      rw [Int32.lt_iff_toInt_lt]
      have := Int64.lt_iff_toInt_lt.mp h
      simpa using this
    constructor
    · intro c; exact absurd c (by decide)
    · intro c; exact absurd c (Int32.lt_asymm h2)
  · rw [if_neg h]
    have h2 : ¬ y < x := by
      intro c
      apply h
      apply Int64.lt_iff_toInt_lt.mpr
      have := Int32.lt_iff_toInt_lt.mp c
      simpa using this
    by_cases e : x.toInt64 = y.toInt64
    · rw [if_pos e]
      have e2 : x = y := by
        have h3 := congrArg Int64.toInt e
        apply Int32.toInt_inj.mp
        simpa using h3
      subst e2
      constructor
      · intro c; exact absurd c (by decide)
      · intro c; exact absurd c Int32.lt_irrefl
    · rw [if_neg e]
      constructor
      · intro _
        rcases Int32.lt_or_eq_of_le (Int32.not_lt.mp h2) with h3 | h3
        · exact h3
        · exact absurd (by rw [h3]) e
      · intro _; decide
theorem oa_cmp_gt (x y : Int32) : (0 < lg_cmp x.toInt64 y.toInt64) ↔ y < x := by
  unfold lg_cmp
  by_cases h : x.toInt64 > y.toInt64
  · rw [if_pos h]
    have h2 : y < x := by
      rw [Int32.lt_iff_toInt_lt]
      have := Int64.lt_iff_toInt_lt.mp h
      simpa using this
    exact ⟨fun _ => h2, fun _ => by decide⟩
  · rw [if_neg h]
    have h2 : ¬ y < x := by
      intro c
      apply h
      apply Int64.lt_iff_toInt_lt.mpr
      have := Int32.lt_iff_toInt_lt.mp c
      simpa using this
    refine ⟨fun c => ?_, fun c => absurd c h2⟩
    split at c
    · exact absurd c (by decide)
    · exact absurd c (by decide)
theorem f_in (x lo hi : Int32) : f_X7_in x.toInt64 lo.toInt64 hi.toInt64 = some (oa_bi (oa_wi x lo hi)) := by
  unfold f_X7_in oa_wi
  by_cases h : x < lo
  · rw [if_pos ((oa_cmp_lt x lo).mpr h), decide_eq_false (Int32.not_le.mpr h)]; rfl
  · rw [if_neg (fun c => h ((oa_cmp_lt x lo).mp c)), decide_eq_true (Int32.not_lt.mp h)]
    by_cases h2 : hi < x
    · rw [if_pos ((oa_cmp_gt x hi).mpr h2), decide_eq_false (Int32.not_le.mpr h2)]; rfl
    · rw [if_neg (fun c => h2 ((oa_cmp_gt x hi).mp c)), decide_eq_true (Int32.not_lt.mp h2)]; rfl
theorem oa_wi_t {x : Int32} {a b : Nat} (hb : b < 2 ^ 31) (h : oa_wi x (nI a) (nI b) = true) (ha : a < 2 ^ 31) : ∃ j, a ≤ j ∧ j ≤ b ∧ x = nI j := by
  unfold oa_wi at h
  rw [Bool.and_eq_true, decide_eq_true_eq, decide_eq_true_eq] at h
  have h0 : ¬ x < 0 := by
    intro c
    have := Int32.lt_of_le_of_lt h.1 c
    exact nI_pos ha this
  obtain ⟨j, hj, rfl⟩ := nI_of h0
  exact ⟨j, (nI_leI ha hj).mp h.1, (nI_leI hj hb).mp h.2, rfl⟩
theorem oa_wi_n {a b j : Nat} (h1 : a ≤ j) (h2 : j ≤ b) (hb : b < 2 ^ 31) : oa_wi (nI j) (nI a) (nI b) = true := by
  unfold oa_wi
  rw [decide_eq_true (nI_le h1 (by omega)), decide_eq_true (nI_le h2 hb)]; rfl
theorem oa_has_t {x : Int32} {n : Nat} (hn : n ≤ 6) (h : oa_wi x 0 (nI n - 1) = true) : ∃ j, j < n ∧ x = nI j := by
  rcases n with _ | n
  · unfold oa_wi at h
    rw [Bool.and_eq_true, decide_eq_true_eq, decide_eq_true_eq] at h
    exact absurd (Int32.le_trans h.1 h.2) (by decide)
  · rw [nI_pred] at h
    obtain ⟨j, _, h2, h3⟩ := oa_wi_t (a := 0) (by omega) h (by omega)
    exact ⟨j, by omega, h3⟩
theorem oa_has_n {n j : Nat} (hn : n ≤ 6) (h : j < n) : oa_wi (nI j) 0 (nI n - 1) = true := by
  rcases n with _ | n
  · omega
  · rw [nI_pred]
    exact oa_wi_n (a := 0) (by omega) (by omega) (by omega)
theorem bt_mk {f : Nat → Bool} {n i : Nat} (hn : n ≤ 32) (hi : i < n) : bt (oa_mk f n) i = f i := by
  rw [oa_mk_bt f n hn i (by omega), decide_eq_true hi]; rfl
