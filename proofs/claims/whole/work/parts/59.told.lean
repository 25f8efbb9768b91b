/-! the village that is told -/
def TBw (w : Nat) (x : Int32) : Prop := (w = 0 → ∃ s : Nat, s ≤ 4 ∧ x = nI s) ∧ (1 ≤ w → w ≤ 4 → ∃ y : Nat, y ≤ 20 ∧ x = nI y) ∧ (w = 5 → ∃ y : Nat, 1 ≤ y ∧ y ≤ 4 ∧ x = nI y) ∧ (w = 7 → x = oNO ∨ ∃ y : Nat, y ≤ 5 ∧ x = nI y)
def TDR (V : oa_I2) (R : oa_P) : Prop := (∀ k, k < 3 → V 0 k = R k) ∧ (R 0 = 1 ∨ R 0 = 2) ∧ ∃ L, RB R L
/-- all traits of the first n, and m traits of the next -/
def TDX (n m : Nat) (V : oa_I2) (P : oa_P) : Prop := n ≤ 6 ∧ (∀ w p, w < 8 → p < 6 → (p < n ∨ (p = n ∧ w < m)) → V 1 (w * 6 + p) = P (8 * p + w) ∧ TBw w (P (8 * p + w))) ∧ (∀ p, n ≤ p → p < 6 → V 1 (42 + p) = oNO ∧ V 1 (36 + p) = 0 ∧ P (8 * p + 6) = 0) ∧ (∀ r, r < 6 → V 2 r = oa_mk (an P r) 7) ∧ (∀ k, k < 36 → V 3 k = 0) ∧ (∀ r, r < 6 → ∀ p, p < 7 → P (48 + (7 * r + p)) = 0 ∨ (P (48 + (7 * r + p)) = 1 ∧ r < n)) ∧ CG (fun _ => 0) P V
section TDO
variable {V : oa_I2} {R P : oa_P} {n m : Nat}
theorem an_up {k : Nat} {x : Int32} (hk : k < 48 ∨ 89 < k) {r p : Nat} (hr : r < 6) (hp : p < 7) : an (upd P k x) r p = an P r p := by
  unfold an
  rw [upd_n _ _ (by omega)]
theorem mk_up {k : Nat} {x : Int32} (hk : k < 48 ∨ 89 < k) {r : Nat} (hr : r < 6) : oa_mk (an (upd P k x) r) 7 = oa_mk (an P r) 7 := oa_mk_cong (fun p hp => an_up hk hr hp)
theorem CG_up {k : Nat} {x : Int32} (hk : k < 90) (h : CG (fun _ => 0) P V) : CG (fun _ => 0) (upd P k x) V := by
  obtain ⟨h1, h2, h3, h4⟩ := h
  refine ⟨fun j hj => ?_, ?_, ?_, ?_⟩
  · rw [upd_n _ _ (by omega)]; exact h1 j hj
  · rw [upd_n _ _ (by omega)]; exact h2
  · rw [upd_n _ _ (by omega)]; exact h3
  · rw [upd_n _ _ (by omega)]; exact h4
theorem CG_vp {a : Nat} {g : Nat → Int32} (ha : a < 4) (h : CG (fun _ => 0) P V) : CG (fun _ => 0) P (va_up V a g) := by
  obtain ⟨h1, h2, h3, h4⟩ := h
  refine ⟨fun j hj => ?_, ?_, ?_, ?_⟩
  · rw [va_up_n _ _ (by omega)]; exact h1 j hj
  · rw [va_up_n _ _ (by omega)]; exact h2
  · rw [va_up_n _ _ (by omega)]; exact h3
  · rw [va_up_n _ _ (by omega)]; exact h4
theorem TDX_trait {x : Int32} (h : TDX n m V P) (hn : n < 6) (hm : m < 6) (hx : TBw m x) : TDX n (m + 1) (va_up V 1 (upd (V 1) (m * 6 + n) x)) (upd P (8 * n + m) x) := by
  obtain ⟨h1, h2, h3, h4, h5, h6, h7⟩ := h
  refine ⟨h1, fun w p hw hp hq => ?_, fun p hp hp6 => ?_, fun r hr => ?_, fun k hk => ?_, fun r hr p hp => ?_, CG_vp (by omega) (CG_up (by omega) h7)⟩
  · rw [va_up_s]
    by_cases e : p = n ∧ w = m
    · obtain ⟨rfl, rfl⟩ := e
      rw [upd_s, upd_s]
      exact ⟨rfl, hx⟩
    · rw [upd_n _ _ (by omega), upd_n _ _ (by omega)]
      exact h2 w p hw hp (by omega)
  · rw [va_up_s, upd_n _ _ (by omega), upd_n _ _ (by omega), upd_n _ _ (by omega)]
    exact h3 p hp hp6
  · rw [va_up_n _ _ (by omega), mk_up (by omega) hr]
    exact h4 r hr
  · rw [va_up_n _ _ (by omega)]; exact h5 k hk
  · rw [upd_n _ _ (by omega)]; exact h6 r hr p hp
theorem TDX_one {c : Int32} (h : TDX n 6 V P) (hn : n < 6) : TDX (n + 1) 0 (va_up V 5 (upd (V 5) 0 c)) (upd P (8 * n + 7) oNO) := by
  obtain ⟨h1, h2, h3, h4, h5, h6, h7⟩ := h
  refine ⟨by omega, fun w p hw hp hq => ?_, fun p hp hp6 => ?_, fun r hr => ?_, fun k hk => ?_, fun r hr p hp => ?_, ?_⟩
  · rw [va_up_n _ _ (by omega)]
    by_cases e : p = n ∧ w = 7
    · obtain ⟨rfl, rfl⟩ := e
      rw [upd_s, show 7 * 6 + p = 42 + p by omega]
      exact ⟨(h3 p (Nat.le_refl p) hp).1, fun c => by omega, fun _ c => by omega, fun c => by omega, fun _ => Or.inl rfl⟩
    · rw [upd_n _ _ (by omega)]
      by_cases e6 : p = n ∧ w = 6
      · obtain ⟨rfl, rfl⟩ := e6
        rw [show 6 * 6 + p = 36 + p by omega, (h3 p (Nat.le_refl p) hp).2.1, (h3 p (Nat.le_refl p) hp).2.2]
        exact ⟨rfl, fun c => by omega, fun _ c => by omega, fun c => by omega, fun c => by omega⟩
      · exact h2 w p hw hp (by omega)
  · rw [va_up_n _ _ (by omega), upd_n _ _ (by omega)]
    exact h3 p (by omega) hp6
  · rw [va_up_n _ _ (by omega), mk_up (by omega) hr]
    exact h4 r hr
  · rw [va_up_n _ _ (by omega)]; exact h5 k hk
  · rw [upd_n _ _ (by omega)]
    exact (h6 r hr p hp).imp id (fun c => ⟨c.1, by omega⟩)
  · obtain ⟨g1, g2, g3, g4⟩ := CG_up (k := 8 * n + 7) (x := oNO) (by omega) h7
    refine ⟨fun j hj => ?_, ?_, ?_, ?_⟩
    · rw [va_up_n _ _ (by omega)]; exact g1 j hj
    · rw [va_up_s, upd_n _ _ (by omega)]; exact g2
    · rw [va_up_s, upd_n _ _ (by omega)]; exact g3
    · rw [va_up_s, upd_n _ _ (by omega)]; exact g4
theorem TDX_with {x : Int32} {w p : Nat} (h : TDX n 0 V P) (hp : p < n) (hw : w = 6 ∨ w = 7) (hx : TBw w x) : TDX n 0 (va_up V 1 (upd (V 1) (w * 6 + p) x)) (upd P (8 * p + w) x) := by
  obtain ⟨h1, h2, h3, h4, h5, h6, h7⟩ := h
  refine ⟨h1, fun w' p' hw' hp' hq => ?_, fun p' hp' hp6 => ?_, fun r hr => ?_, fun k hk => ?_, fun r hr p' hp' => ?_, CG_vp (by omega) (CG_up (by omega) h7)⟩
  · rw [va_up_s]
    by_cases e : p' = p ∧ w' = w
    · obtain ⟨rfl, rfl⟩ := e
      rw [upd_s, upd_s]
      exact ⟨rfl, hx⟩
    · rw [upd_n _ _ (by omega), upd_n _ _ (by omega)]
      exact h2 w' p' hw' hp' hq
  · rw [va_up_s, upd_n _ _ (by omega), upd_n _ _ (by omega), upd_n _ _ (by omega)]
    exact h3 p' hp' hp6
  · rw [va_up_n _ _ (by omega), mk_up (by omega) hr]
    exact h4 r hr
  · rw [va_up_n _ _ (by omega)]; exact h5 k hk
  · rw [upd_n _ _ (by omega)]; exact h6 r hr p' hp'
theorem TDX_age {k : Nat} (h : TDX n m V P) : TDX n m (va_up V 3 (upd (V 3) k 0)) P := by
  obtain ⟨h1, h2, h3, h4, h5, h6, h7⟩ := h
  refine ⟨h1, fun w p hw hp hq => ?_, fun p hp hp6 => ?_, fun r hr => ?_, fun j hj => ?_, h6, CG_vp (by omega) h7⟩
  · rw [va_up_n _ _ (by omega)]; exact h2 w p hw hp hq
  · rw [va_up_n _ _ (by omega)]; exact h3 p hp hp6
  · rw [va_up_n _ _ (by omega)]; exact h4 r hr
  · rw [va_up_s]
    by_cases e : j = k
    · rw [e, upd_s]
    · rw [upd_n _ _ e]; exact h5 j hj
theorem TDX_angry {p y : Nat} (h : TDX n 0 V P) (hp : p < n) (hy : y < 7) : TDX n 0 (va_up V 2 (upd (V 2) p (V 2 p ||| ((1 : Int32) <<< (nI y &&& 31))))) (upd P (48 + (7 * p + y)) 1) := by
  obtain ⟨h1, h2, h3, h4, h5, h6, h7⟩ := h
  refine ⟨h1, fun w p' hw hp' hq => ?_, fun p' hp' hp6 => ?_, fun r hr => ?_, fun k hk => ?_, fun r hr p' hp' => ?_, CG_vp (by omega) (CG_up (by omega) h7)⟩
  · rw [va_up_n _ _ (by omega), upd_n _ _ (by omega)]; exact h2 w p' hw hp' hq
  · rw [va_up_n _ _ (by omega), upd_n _ _ (by omega)]; exact h3 p' hp' hp6
  · rw [va_up_s]
    by_cases e : r = p
    · subst e
      rw [upd_s, h4 r hr, oa_mk_or1 _ (by omega) hy]
      refine oa_mk_cong (fun q hq => ?_)
      unfold an
      by_cases eq : q = y
      · rw [eq, upd_s, decide_eq_true (rfl : y = y), Bool.or_true]; rfl
      · rw [upd_n _ _ (by omega), decide_eq_false eq, Bool.or_false]
    · rw [upd_n _ _ e, h4 r hr]
      refine oa_mk_cong (fun q hq => ?_)
      unfold an
      rw [upd_n _ _ (by omega)]
  · rw [va_up_n _ _ (by omega)]; exact h5 k hk
  · by_cases e : 48 + (7 * r + p') = 48 + (7 * p + y)
    · rw [e, upd_s]
      exact Or.inr ⟨rfl, by omega⟩
    · rw [upd_n _ _ e]; exact h6 r hr p' hp'
theorem TDX_99 {x : Int32} (h : TDX n m V P) : TDX n m V (upd P 99 x) := by
  obtain ⟨h1, h2, h3, h4, h5, h6, h7⟩ := h
  refine ⟨h1, fun w p hw hp hq => ?_, fun p hp hp6 => ?_, fun r hr => ?_, h5, fun r hr p hp => ?_, ?_⟩
  · rw [upd_n _ _ (by omega)]; exact h2 w p hw hp hq
  · rw [upd_n _ _ (by omega)]; exact h3 p hp hp6
  · rw [mk_up (by omega) hr]; exact h4 r hr
  · rw [upd_n _ _ (by omega)]; exact h6 r hr p hp
  · obtain ⟨g1, g2, g3, g4⟩ := h7
    refine ⟨fun j hj => ?_, ?_, ?_, ?_⟩
    · rw [upd_n _ _ (by omega)]; exact g1 j hj
    · rw [upd_n _ _ (by omega)]; exact g2
    · rw [upd_n _ _ (by omega)]; exact g3
    · rw [upd_n _ _ (by omega)]; exact g4
theorem TDX_vr {g : Nat → Int32} (h : TDX n m V P) : TDX n m (va_up V 0 g) P := by
  obtain ⟨h1, h2, h3, h4, h5, h6, h7⟩ := h
  refine ⟨h1, fun w p hw hp hq => ?_, fun p hp hp6 => ?_, fun r hr => ?_, fun j hj => ?_, h6, CG_vp (by omega) h7⟩
  · rw [va_up_n _ _ (by omega)]; exact h2 w p hw hp hq
  · rw [va_up_n _ _ (by omega)]; exact h3 p hp hp6
  · rw [va_up_n _ _ (by omega)]; exact h4 r hr
  · rw [va_up_n _ _ (by omega)]; exact h5 j hj
theorem TDR_vp {a : Nat} {g : Nat → Int32} (ha : a ≠ 0) (h : TDR V R) : TDR (va_up V a g) R := by
  obtain ⟨h1, h2⟩ := h
  exact ⟨fun k hk => by rw [va_up_n _ _ (by omega)]; exact h1 k hk, h2⟩
theorem TDR_up {w : Nat} {x : Int32} (hw : w < 3) (h : TDR V R) (h0 : w = 0 → x = 1 ∨ x = 2) (h1 : w = 1 → ∃ L : Nat, 1 ≤ L ∧ L ≤ 9 ∧ x = nI L) : TDR (va_up V 0 (upd (V 0) w x)) (upd R w x) := by
  obtain ⟨r1, r2, L, r3, r4, r5⟩ := h
  refine ⟨fun k hk => ?_, ?_, ?_⟩
  · rw [va_up_s]
    by_cases e : k = w
    · rw [e, upd_s, upd_s]
    · rw [upd_n _ _ e, upd_n _ _ e]; exact r1 k hk
  · by_cases e : w = 0
    · subst e; rw [upd_s]; exact h0 rfl
    · rw [upd_n _ _ (by omega)]; exact r2
  · by_cases e : w = 1
    · subst e
      obtain ⟨L', l1, l2, l3⟩ := h1 rfl
      exact ⟨L', by rw [upd_s]; exact l3, l1, l2⟩
    · exact ⟨L, by rw [upd_n _ _ (by omega)]; exact r3, r4, r5⟩
end TDO
