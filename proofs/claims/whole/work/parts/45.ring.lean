/-! rings of anger -/
def fs (s : Nat) : Nat := if s.testBit 0 then 0 else if s.testBit 1 then 1 else if s.testBit 2 then 2 else if s.testBit 3 then 3 else if s.testBit 4 then 4 else if s.testBit 5 then 5 else 6
def pn (s : Nat) : Nat := oa_cN s.testBit 6
theorem rg_ntz : ∀ s, s < 64 → 0 < s → f_J6_numberOfTrailingZeros_0f7a4 (nI s) = some (nI (fs s)) := by decide +kernel
theorem rg_pc : ∀ s, s < 64 → oa_pc (nI s) = nI (pn s) := by decide +kernel
theorem rg_one : ∀ s, s < 64 → ∀ l, l < 6 → ((nI s = (1 : Int32) <<< (nI l &&& 31)) ↔ s = 2 ^ l) := by decide +kernel
theorem rg_rest : ∀ s, s < 64 → ∀ l, l < 6 → s.testBit l = true → nI s &&& (((1 : Int32) <<< (nI l &&& 31)) ^^^ (-1)) = nI (s - 2 ^ l) := by decide +kernel
theorem rg_bit : ∀ s, s < 64 → ∀ l, l < 6 → s.testBit l = true → ∀ r, r < 6 → (s - 2 ^ l).testBit r = (s.testBit r && !decide (r = l)) := by decide +kernel
theorem rg_fs : ∀ s, s < 64 → 0 < s → fs s < 6 ∧ s.testBit (fs s) = true ∧ ∀ j, j < fs s → s.testBit j = false := by decide +kernel
theorem rg_sg : ∀ s, s < 64 → 0 < s → (pn s = 1 ↔ s = 2 ^ fs s) := by decide +kernel
theorem rg_p1 : ∀ s, s < 64 → 0 < s → 1 ≤ pn s := by decide +kernel
theorem rg_pow : ∀ l, l < 6 → fs (2 ^ l) = l ∧ ∀ r, r < 6 → (2 ^ l).testBit r = decide (r = l) := by decide +kernel
theorem rg_lt {n s l : Nat} (hs : s < 2 ^ n) (h : s.testBit l = true) : l < n := by
  rcases Nat.lt_or_ge l n with c | c
  · exact c
  · rw [Nat.testBit_lt_two_pow (Nat.lt_of_lt_of_le hs (Nat.pow_le_pow_right (by omega) c))] at h
    cases h
/-- a way through all of s, from its least one, that ends at l -/
def wy (P : oa_P) (n : Nat) (s l : Nat) : Bool :=
  if s = 2 ^ l then true
  else if h : s.testBit l = true then !decide (l = fs s) && exb (fun r => wy P n (s - 2 ^ l) r && an P r l) n
  else false
termination_by s
decreasing_by
  have h1 := Nat.ge_two_pow_of_testBit h
  have h2 : 0 < 2 ^ l := Nat.two_pow_pos l
  omega
theorem wy_bit {P : oa_P} {n s l : Nat} (hs : s < 64) (hl : l < 6) (h : wy P n s l = true) : s.testBit l = true := by
  unfold wy at h
  by_cases e : s = 2 ^ l
  · rw [e, (rg_pow l hl).2 l hl]; simp
  · rw [if_neg e] at h
    split at h
    · rename_i c; exact c
    · cases h
theorem exb_iff {f : Nat → Bool} : ∀ {n : Nat}, exb f n = true ↔ ∃ k, k < n ∧ f k = true
  | 0 => by
    constructor
    · intro h; cases h
    · rintro ⟨k, hk, _⟩; exact absurd hk (Nat.not_lt_zero k)
  | n + 1 => by
    unfold exb
    rw [Bool.or_eq_true, exb_iff]
    constructor
    · rintro (⟨k, h1, h2⟩ | h)
      · exact ⟨k, by omega, h2⟩
      · exact ⟨n, by omega, h⟩
    · rintro ⟨k, h1, h2⟩
      by_cases e : k = n
      · right; rw [← e]; exact h2
      · left; exact ⟨k, by omega, h2⟩
theorem exb_false {f : Nat → Bool} {n : Nat} : exb f n = false ↔ ∀ k, k < n → f k = false := by
  constructor
  · intro h k hk
    cases c : f k
    · rfl
    · rw [exb_iff.mpr ⟨k, hk, c⟩] at h; cases h
  · intro h
    cases c : exb f n
    · rfl
    · obtain ⟨k, h1, h2⟩ := exb_iff.mp c
      rw [h k h1] at h2; cases h2
theorem mk_0 {f : Nat → Bool} {n : Nat} (hn : n ≤ 32) {α : Type} {x y : α} : (if oa_mk f n = 0 then x else y) = if exb f n = true then y else x := by
  cases c : exb f n
  · have : oa_mk f n = 0 := by
      rw [← mk_false n]
      exact oa_mk_cong fun k hk => exb_false.mp c k hk
    rw [if_pos this, if_neg (by decide)]
  · obtain ⟨k, h1, h2⟩ := exb_iff.mp c
    rw [if_neg (fun e => by
      have := bt_mk (f := f) hn h1
      rw [e, b_0, h2] at this
      cases this), if_pos rfl]
/-- whether s is a ring -/
def rg (P : oa_P) (n s : Nat) : Bool := exb (fun r => wy P n s r && an P r (fs s)) n
section RGC
variable {n : Nat} {R G P : oa_P} {V X : oa_I2}
theorem cv_angryWith {p : Nat} (h : CV n R G P V) (hp : p < 6) : f_X5_angryWith V (nI p) = some (oa_mk (fun r => an P r p) n) := by
  have := h.1.1
  rw [ct_angryWith h.1 (by omega)]
  exact congrArg some (oa_mk_cong fun r hr => cv_bt h (by omega) (by omega))
theorem cl_endsOf {s : Nat} (h : CV n R G P V) (hs0 : 0 < s) (hs : s < 2 ^ n) (hsg : ¬ s = 2 ^ fs s) (hX : ∀ s', 0 < s' → s' < s → X 0 s' = oa_mk (wy P n s') n) : f_X2_endsOf X V (nI s) (nI (fs s)) = some (oa_mk (wy P n s) n) := by
  have h6 := h.1.1
  have h64 := p2_le h6
  obtain ⟨f1, f2, f3⟩ := rg_fs s (by omega) hs0
  have hfn := rg_lt hs f2
  have hone : ∀ l, l < 6 → ¬ s = 2 ^ l := by
    intro l hl e
    apply hsg
    rw [e, (rg_pow l hl).1]
  have hlow : ∀ l, l < fs s + 1 → wy P n s l = false := by
    intro l hl
    unfold wy
    rw [if_neg (hone l (by omega))]
    by_cases c : l = fs s
    · rw [dif_pos (by rw [c]; exact f2), decide_eq_true c]; rfl
    · rw [dif_neg (by rw [f3 l (by omega)]; decide)]
  unfold f_X2_endsOf
  simp only [oa_lt, nI_1]
  unfold l_X2_endsOf_8
  refine oa_for (fun i => (oa_mk (fun l => decide (l < fs s + 1 + i) && wy P n s l) n, nI (fs s + 1 + i))) (n - (fs s + 1)) ?_ ?_ ?_ oa_fu (by rw [oa_fu_eq]; omega)
  · refine Prod.ext ?_ rfl
    rw [← mk_false n]
    refine oa_mk_cong fun l hl => ?_
    by_cases c : l < fs s + 1
    · rw [hlow l c, Bool.and_false]
    · rw [decide_eq_false (show ¬ l < fs s + 1 + 0 by omega)]; rfl
  · intro i hi k
    have hl : fs s + 1 + i < n := by omega
    generalize hg : fs s + 1 + i = l at hl
    have hstep : ∀ b, wy P n s l = b → (if b = true then oa_mk (fun l' => decide (l' < l) && wy P n s l') n ||| ((1 : Int32) <<< (nI l &&& 31)) else oa_mk (fun l' => decide (l' < l) && wy P n s l') n) = oa_mk (fun l' => decide (l' < fs s + 1 + (i + 1)) && wy P n s l') n := by
      intro b hb
      rw [show fs s + 1 + (i + 1) = l + 1 by omega]
      cases b
      · rw [if_neg (by decide)]
        refine oa_mk_cong fun l' _ => ?_
        by_cases e : l' = l
        · rw [e, hb]; simp
        · rw [decide_eq_decide.mpr (show l' < l ↔ l' < l + 1 by omega)]
      · rw [if_pos rfl, oa_mk_or1 _ (by omega) hl]
        refine oa_mk_cong fun l' _ => ?_
        by_cases e : l' = l
        · rw [e, hb]; simp
        · rw [decide_eq_decide.mpr (show l' < l ↔ l' < l + 1 by omega), decide_eq_false e, Bool.or_false]
    have hnx : nI l + 1 = nI (fs s + 1 + (i + 1)) := by rw [nI_1]; congr 1; omega
    have hbt : bt (nI s) l = s.testBit l := bt_nI s (by omega)
    cases ht : s.testBit l
    · have hw : wy P n s l = false := by
        unfold wy
        rw [if_neg (hone l (by omega)), dif_neg (by rw [ht]; decide)]
      have := hstep false hw
      rw [if_neg (by decide)] at this
      simp only [oa_ut]
      unfold b_X2_endsOf_8
      rw [h.1.2.1, if_neg (nI_ge hl (by omega)), oa_if_b0 _ (by omega), hbt, ht, if_neg (by decide), this, hnx]
    · have hrest := rg_rest s (by omega) l (by omega) ht
      have hlt : 2 ^ l ≤ s := Nat.ge_two_pow_of_testBit ht
      have h2 : 0 < 2 ^ l := Nat.two_pow_pos l
      have hne := hone l (by omega)
      have hw : wy P n s l = exb (fun r => wy P n (s - 2 ^ l) r && an P r l) n := by
        rw [wy, if_neg hne, dif_pos ht, decide_eq_false (show ¬ l = fs s by omega)]; rfl
      have := hstep _ hw
      simp only [oa_ut]
      unfold b_X2_endsOf_8
      rw [h.1.2.1, if_neg (nI_ge hl (by omega)), oa_if_b0 _ (by omega), hbt, ht, if_pos rfl, hrest, oa_rd_nI (by omega) (by omega), hX (s - 2 ^ l) (by omega) (by omega), cv_angryWith h (by omega)]
      simp only [oa_bs, oa_lt]
      rw [oa_mk_and _ _ (by omega), mk_0 (by omega), hnx, ← this]
      cases exb (fun r => wy P n (s - 2 ^ l) r && an P r l) n
      · rw [if_neg (by decide), if_neg (by decide)]
      · rw [if_pos rfl, if_pos rfl]
  · intro k
    simp only [oa_ut]
    unfold b_X2_endsOf_8
    rw [h.1.2.1, if_pos (nI_le (by omega) (by omega))]
    refine congrArg some (oa_mk_cong fun l hl => ?_)
    rw [decide_eq_true (show l < fs s + 1 + (n - (fs s + 1)) by omega)]; rfl
end RGC
