/-! angers read from sheets -/
theorem oa_for12 {α β γ δ : Type} {F : (α → Option β) → α → Option β} {H : (γ → Option δ) → γ → Option δ} (Q : Option β → Option δ → Prop) (Rl : Nat → α → γ → Prop) (N : Nat) {s0 : α} {t0 : γ} (h0 : Rl 0 s0 t0) (hs : ∀ i, i < N → ∀ s t, Rl i s t → (∃ s' t', Rl (i + 1) s' t' ∧ (∀ f, oa_fix F (f + 1) s = oa_fix F f s') ∧ (∀ f, oa_fix H (f + 2) t = oa_fix H f t')) ∨ (∀ f g, Q (oa_fix F (f + 2) s) (oa_fix H (g + 3) t))) (he : ∀ s t, Rl N s t → ∀ f g, Q (oa_fix F (f + 1) s) (oa_fix H (g + 1) t)) : ∀ fuel fuel', N + 2 < fuel → 2 * N + 4 < fuel' → Q (oa_fix F fuel s0) (oa_fix H fuel' t0) := by
  have key : ∀ j i fuel fuel' s t, i + j = N → j + 2 < fuel → 2 * j + 4 < fuel' → Rl i s t → Q (oa_fix F fuel s) (oa_fix H fuel' t) := by
    intro j
    induction j with
    | zero =>
      intro i fuel fuel' s t h1 h2 h2' h3
      obtain ⟨f, rfl⟩ : ∃ f, fuel = f + 1 := ⟨fuel - 1, by omega⟩
      obtain ⟨f', rfl⟩ : ∃ f, fuel' = f + 1 := ⟨fuel' - 1, by omega⟩
      have : i = N := by omega
      subst this
      exact he s t h3 _ _
    | succ j ih =>
      intro i fuel fuel' s t h1 h2 h2' h3
      rcases hs i (by omega) s t h3 with ⟨s', t', h4, h5, h6⟩ | h4
      · obtain ⟨f, rfl⟩ : ∃ f, fuel = f + 1 := ⟨fuel - 1, by omega⟩
        obtain ⟨f', rfl⟩ : ∃ f, fuel' = f + 2 := ⟨fuel' - 2, by omega⟩
        rw [h5, h6]; exact ih (i + 1) f f' s' t' (by omega) (by omega) (by omega) h4
      · obtain ⟨f, rfl⟩ : ∃ f, fuel = f + 2 := ⟨fuel - 2, by omega⟩
        obtain ⟨f', rfl⟩ : ∃ f, fuel' = f + 3 := ⟨fuel' - 3, by omega⟩
        exact h4 f f'
  intro fuel fuel' h h'
  exact key N 0 fuel fuel' s0 t0 (by omega) h h' h0
/-- the loop of read, whichever the sheet -/
noncomputable def rdb (a : Nat) (J : oa_J2) (x1 : Int32) (x2 : Int32) (x3 : Int32) (x4 : Int32) (k73 : oa_I3 → Int32 → Int32 → Int32 → Option (Int32 × oa_I3)) (B : oa_I3) (x6 : Int32) (x7 : Int32) (x8 : Int32) : Option (Int32 × oa_I3) :=
  if x4 ≤ x8 then (
    b_X6_read_170 J x1 x2 x3 x4 B x6 x7)
  else (
    if x6 = 0 then (
      oa_let ((Int32.toInt64 x3) + (2 * (Int32.toInt64 x8))) fun (y55 : Int64) =>
      (f_X3_hasCell (B a) y55).bind fun (y57 : Int32) =>
      if y57 = 0 then (
        k73 B 2 x7 (x8 + 1))
      else (
        (f_X3_hasCell (B a) (y55 + 1)).bind fun (y61 : Int32) =>
        if y61 = 0 then (
          k73 B 2 x7 (x8 + 1))
        else (
          (oa_rd (B a 0) 40 (Int64.toInt32 y55)).bind fun (y65 : Int32) =>
          (oa_rd (B a 0) 40 ((Int64.toInt32 y55) + 1)).bind fun (y67 : Int32) =>
          (f_X5_begin (B 1) y65 y67).bind <| oa_u fun (y69 : Int32) (V70 : oa_I2) =>
          oa_let (va_up B 1 V70) fun (B73 : oa_I3) =>
          if 0 ≤ y69 then (
            k73 B73 x6 (x7 + 1) (x8 + 1))
          else (
            some (((-20) - x8), B73)))))
    else (
      b_X6_read_170 J x1 x2 x3 x4 B x6 x7))
noncomputable def rdl (a : Nat) (J : oa_J2) (x1 : Int32) (x2 : Int32) (x3 : Int32) (x4 : Int32) (n : Nat) (B : oa_I3) (x6 : Int32) (x7 : Int32) (x8 : Int32) : Option (Int32 × oa_I3) :=
  oa_fix (fun k => oa_u fun (B : oa_I3) => oa_u fun (x6 : Int32) => oa_u fun (x7 : Int32) (x8 : Int32) => rdb a J x1 x2 x3 x4 (fun B x6 x7 x8 => k (B, x6, x7, x8)) B x6 x7 x8) n (B, x6, x7, x8)
theorem f_hasCellN {S : oa_I2} {s z : Nat} (hs : S 1 0 = nI s) (h : s ≤ 40) (hz : z < 2 ^ 40) : f_X3_hasCell S (lN z) = some (oa_bi (decide (z < s))) := by
  unfold f_X3_hasCell
  rw [hs, nI_l (by omega)]
  have h1 : ¬ lg_cmp (lN z) 0 < 0 := by
    unfold lg_cmp
    by_cases c : lN z > 0
    · rw [if_pos c]; decide
    · rw [if_neg c]
      by_cases d : lN z = 0
      · rw [if_pos d]; decide
      · exfalso
        have : ¬ 0 < z := fun e => c ((pk_lLT (a := 0) (by omega) (by omega)).mpr e)
        exact d (by rw [show z = 0 by omega]; rfl)
  rw [if_neg h1]
  by_cases l : z < s
  · have : ¬ (0 : Int32) ≤ lg_cmp (lN z) (lN s) := by
      unfold lg_cmp
      have n1 : ¬ lN z > lN s := fun c => by have := (pk_lLT (by omega) (by omega)).mp c; omega
      have n2 : ¬ lN z = lN s := fun c => by have := (pk_lEQ (by omega) (by omega)).mp c; omega
      rw [if_neg n1, if_neg n2]; decide
    rw [if_neg this, decide_eq_true l]; rfl
  · have : (0 : Int32) ≤ lg_cmp (lN z) (lN s) := by
      unfold lg_cmp
      by_cases c : lN z > lN s
      · rw [if_pos c]; decide
      · rw [if_neg c]
        have : ¬ s < z := fun e => c ((pk_lLT (by omega) (by omega)).mpr e)
        rw [if_pos (by rw [show z = s by omega])]; decide
    rw [if_pos this, decide_eq_false l]; rfl
theorem f_inN {s z : Nat} (h : s ≤ 40) (hz : z < 2 ^ 40) : f_X7_in (lN z) 0 (nI s - 1).toInt64 = some (oa_bi (decide (z < s))) := by
  unfold f_X7_in
  have h1 : ¬ lg_cmp (lN z) 0 < 0 := by
    unfold lg_cmp
    by_cases c : lN z > 0
    · rw [if_pos c]; decide
    · rw [if_neg c]
      by_cases d : lN z = 0
      · rw [if_pos d]; decide
      · exfalso
        have : ¬ 0 < z := fun e => c ((pk_lLT (a := 0) (by omega) (by omega)).mpr e)
        exact d (by rw [show z = 0 by omega]; rfl)
  rw [if_neg h1]
  rcases s with _ | s
  · have hm : (nI 0 - 1).toInt64 = -1 := by decide
    have : (0 : Int32) < lg_cmp (lN z) (-1) := by
      unfold lg_cmp
      rw [if_pos]
      · decide
      · rw [gt_iff_lt, Int64.lt_iff_toInt_lt, pk_lT (by omega)]
        have : (-1 : Int64).toInt = -1 := by decide
        omega
    rw [hm, if_pos this, decide_eq_false (by omega)]; rfl
  · rw [nI_pred, nI_l (by omega)]
    by_cases l : z < s + 1
    · have : ¬ (0 : Int32) < lg_cmp (lN z) (lN s) := by
        unfold lg_cmp
        have n1 : ¬ lN z > lN s := fun c => by have := (pk_lLT (by omega) (by omega)).mp c; omega
        rw [if_neg n1]
        by_cases d : lN z = lN s
        · rw [if_pos d]; decide
        · rw [if_neg d]; decide
      rw [if_neg this, decide_eq_true l]; rfl
    · have : (0 : Int32) < lg_cmp (lN z) (lN s) := by
        unfold lg_cmp
        rw [if_pos ((pk_lLT (by omega) (by omega)).mpr (by omega))]; decide
      rw [if_pos this, decide_eq_false l]; rfl
/-- entries set -/
def ups (ix : Nat → Nat) (i : Nat) (P : oa_P) : oa_P := it (fun j Q => upd Q (ix j) 1) i P
theorem ups_at {ix : Nat → Nat} {P : oa_P} {k : Nat} : ∀ i, ups ix i P k = if exb (fun j => decide (ix j = k)) i = true then 1 else P k
  | 0 => rfl
  | i + 1 => by
    show upd (ups ix i P) (ix i) 1 k = if (exb (fun j => decide (ix j = k)) i || decide (ix i = k)) = true then 1 else P k
    rw [upd_at, ups_at i]
    by_cases e : k = ix i
    · rw [if_pos e, decide_eq_true e.symm, Bool.or_true, if_pos rfl]
    · rw [if_neg e, decide_eq_false (fun d => e d.symm), Bool.or_false]
/-- one is taken back -/
theorem ups_back {ix : Nat → Nat} {P : oa_P} {m : Nat} (hd : ∀ l, l < m → ix (l + 1) ≠ ix 0) (h0 : P (ix 0) = 0) : upd (ups ix (m + 1) P) (ix 0) 0 = ups (fun l => ix (l + 1)) m P := by
  funext k
  rw [upd_at, ups_at, ups_at]
  by_cases e : k = ix 0
  · rw [if_pos e, if_neg, e, h0]
    intro c
    obtain ⟨l, l1, l2⟩ := exb_iff.mp c
    exact hd l l1 ((of_decide_eq_true l2).trans e)
  · rw [if_neg e]
    have : exb (fun j => decide (ix j = k)) (m + 1) = exb (fun j => decide (ix (j + 1) = k)) m := by
      cases c : exb (fun j => decide (ix (j + 1) = k)) m
      · rw [exb_false] at c ⊢
        intro j hj
        rcases j with _ | j
        · exact decide_eq_false (fun d => e d.symm)
        · exact c j (by omega)
      · obtain ⟨l, l1, l2⟩ := exb_iff.mp c
        exact exb_iff.mpr ⟨l + 1, by omega, l2⟩
    rw [this]
section RD
variable {B : oa_I3} {J : oa_J2} {M : oa_I2} {K : oa_J2} {n L : Nat}
theorem md_restAt {Q : oa_P} {r p : Nat} (hn : Q 99 = nI n) (h6 : n ≤ 6) (hr : r < n) (hp : p < n ∨ p = 6) (hne : p ≠ r) (hq : Q (48 + (7 * r + p)) = 1) : ∃ a, f_X7_resting (oa_ms M 0 Q (M 0 9)) K (nI r) (nI p) = some (a, oa_ms M 0 (upd Q (48 + (7 * r + p)) 0) (M 0 9)) := by
  have hn' : oa_ms M 0 Q (M 0 9) 1 99 = nI n := hn
  have hw : (oa_wi (nI r) 0 (nI n - 1) && (decide (nI p = nI 6) || (oa_wi (nI p) 0 (nI n - 1) && !decide (nI r = nI p)))) = true := by
    rw [oa_has_n h6 hr]
    rcases hp with hp | hp
    · rw [oa_has_n h6 hp, decide_eq_false (fun d => hne ((nI_eq (by omega) (by omega)).mp d).symm)]; simp
    · rw [hp]; simp
  unfold f_X7_resting
  rw [md_isWhom hn', hw]
  simp only [oa_bs, oa_bi_if0, if_true]
  rw [md_age0 (by omega) (by omega), oa_ms0, hq]
  simp only [oa_bs, oa_10, if_false]
  rw [show (48 : Int32) + 7 * nI r + nI p = nI (48 + (7 * r + p)) by rw [show (48 : Int32) = nI 48 from rfl, show (7 : Int32) = nI 7 from rfl, pk_mul, nI_add, nI_add, Nat.add_assoc], oa_wr_nI (by omega) (by omega)]
  simp only [oa_bs, oa_lt]
  have hup := oa_ms_up (M := M) (a := 0) (P := Q) (w := M 0 9) (k := 48 + (7 * r + p)) (x := 0)
  rw [Nat.zero_add, oa_ms0] at hup
  rw [hup, md_angers0 (by omega)]
  exact ⟨_, rfl⟩
theorem md_undo {x2 x4 x3 : Int32} {k f0 i : Nat} {R P : oa_P} (pr : Nat → Nat × Nat) (h6 : n ≤ 6) (hk : k < 4) (hf : f0 + 2 * i ≤ 40) (hx3 : x3 = nI f0) (hn : P 99 = nI n) (hv : ∀ j, j < i → (pr j).1 < n ∧ ((pr j).2 < n ∨ (pr j).2 = 6) ∧ (pr j).2 ≠ (pr j).1 ∧ P (48 + (7 * (pr j).1 + (pr j).2)) = 0 ∧ M 14 (40 * k + (f0 + 2 * j)) = nI (pr j).1 ∧ M 14 (40 * k + (f0 + 2 * j + 1)) = nI (pr j).2) (hd : ∀ j l, j < l → l < i → 48 + (7 * (pr j).1 + (pr j).2) ≠ 48 + (7 * (pr l).1 + (pr l).2)) : l_X7_read_214 K (nI k) x2 x3 x4 (nI i) oa_fu (oa_ms M 0 (ups (fun j => 48 + (7 * (pr j).1 + (pr j).2)) i P) (M 0 9)) 0 = some (-20 - nI i, oa_ms M 0 P (M 0 9)) := by
  subst hx3
  unfold l_X7_read_214
  refine oa_for (fun j => (oa_ms M 0 (ups (fun l => 48 + (7 * (pr (j + l)).1 + (pr (j + l)).2)) (i - j) P) (M 0 9), nI j)) i ?_ ?_ ?_ oa_fu (by rw [oa_fu_eq]; omega)
  · refine Prod.ext ?_ rfl
    dsimp only
    rw [Nat.sub_zero]
    congr 2
    funext l
    rw [Nat.zero_add]
  · intro j hj kk
    obtain ⟨v1, v2, v3, v4, v5, v6⟩ := hv j hj
    obtain ⟨m, hm⟩ : ∃ m, i - j = m + 1 := ⟨i - j - 1, by omega⟩
    have hb := ups_back (ix := fun l => 48 + (7 * (pr (j + l)).1 + (pr (j + l)).2)) (P := P) (m := m) (fun l hl => (hd j (j + (l + 1)) (by omega) (by omega)).symm) v4
    have h99 : ups (fun l => 48 + (7 * (pr (j + l)).1 + (pr (j + l)).2)) (i - j) P 99 = nI n := by
      rw [ups_at, if_neg]
      · exact hn
      · intro c
        obtain ⟨l, l1, l2⟩ := exb_iff.mp c
        have := of_decide_eq_true l2
        obtain ⟨w1, w2, _⟩ := hv (j + l) (by omega)
        omega
    have hset : ups (fun l => 48 + (7 * (pr (j + l)).1 + (pr (j + l)).2)) (i - j) P (48 + (7 * (pr j).1 + (pr j).2)) = 1 := by
      rw [ups_at, if_pos]
      exact exb_iff.mpr ⟨0, by omega, decide_eq_true rfl⟩
    obtain ⟨a, ha⟩ := md_restAt (M := M) (K := K) h99 h6 v1 v2 v3 hset
    show b_X7_read_214 K (nI k) x2 (nI f0) x4 (nI i) (fun M x8 => kk (M, x8)) (oa_ms M 0 (ups (fun l => 48 + (7 * (pr (j + l)).1 + (pr (j + l)).2)) (i - j) P) (M 0 9)) (nI j) = kk (oa_ms M 0 (ups (fun l => 48 + (7 * (pr (j + 1 + l)).1 + (pr (j + 1 + l)).2)) (i - (j + 1)) P) (M 0 9), nI (j + 1))
    unfold b_X7_read_214
    have e1 : (40 : Int32) * nI k + nI f0 + 2 * nI j = nI (40 * k + (f0 + 2 * j)) := by
      rw [show (40 : Int32) = nI 40 from rfl, show (2 : Int32) = nI 2 from rfl, pk_mul, pk_mul, nI_add, nI_add, Nat.add_assoc]
    rw [if_neg (nI_ge hj (by omega)), e1, nI_1, oa_ms_k (by omega) (by omega), oa_rd_nI (by omega) (by omega), oa_rd_nI (by omega) (by omega), v5, show 40 * k + (f0 + 2 * j) + 1 = 40 * k + (f0 + 2 * j + 1) by omega, v6]
    simp only [oa_bs]
    rw [ha]
    simp only [oa_bs, oa_ut, nI_1]
    rw [hm]
    have hb' : upd (ups (fun l => 48 + (7 * (pr (j + l)).1 + (pr (j + l)).2)) (m + 1) P) (48 + (7 * (pr j).1 + (pr j).2)) 0 = ups (fun l => 48 + (7 * (pr (j + 1 + l)).1 + (pr (j + 1 + l)).2)) (i - (j + 1)) P := by
      have := hb
      rw [show i - (j + 1) = m by omega]
      refine Eq.trans this ?_
      congr 1
      funext l
      rw [show j + (l + 1) = j + 1 + l by omega]
    rw [hb']
  · intro kk
    show b_X7_read_214 K (nI k) x2 (nI f0) x4 (nI i) (fun M x8 => kk (M, x8)) (oa_ms M 0 (ups (fun l => 48 + (7 * (pr (i + l)).1 + (pr (i + l)).2)) (i - i) P) (M 0 9)) (nI i) = _
    unfold b_X7_read_214
    rw [if_pos (nI_le (Nat.le_refl i) (by omega)), Nat.sub_self]
    rfl
end RD
