/-! a week on a page; the model does just that -/
/-- traits and number of people are the same -/
def TR (P P' : oa_P) : Prop := ∀ k, k < 48 ∨ 99 ≤ k → P' k = P k
theorem TR_refl (P : oa_P) : TR P P := fun _ _ => rfl
theorem TR_trans {P Q S : oa_P} (h : TR P Q) (g : TR Q S) : TR P S := fun k hk => (g k hk).trans (h k hk)
theorem TR_upd {P Q : oa_P} {j : Nat} {x : Int32} (h : TR P Q) (h1 : 48 ≤ j) (h2 : j < 99) : TR P (upd Q j x) := fun k hk => by
  rw [upd_n _ _ (by omega)]; exact h k hk
def it {α : Type} (f : Nat → α → α) : Nat → α → α
  | 0, P => P
  | k + 1, P => f k (it f k P)
theorem it_succ {α : Type} (f : Nat → α → α) (k : Nat) (P : α) : it f (k + 1) P = f k (it f k P) := Eq.trans rfl rfl
theorem it_TR {f : Nat → oa_P → oa_P} : ∀ {n : Nat}, (∀ k, k < n → ∀ Q, TR Q (f k Q)) → ∀ P, TR P (it f n P)
  | 0, _, P => TR_refl P
  | n + 1, h, P => TR_trans (it_TR (fun k hk => h k (by omega)) P) (h n (by omega) _)
def setr (m : Nat → Bool) (p : Nat) (k : Nat) (P : oa_P) : oa_P := if m k = true then upd P (48 + (7 * k + p)) 1 else P
def p1 (P : oa_P) (p q : Nat) : oa_P := upd P (90 + p) (P (90 + p) + P (8 * q + 1))
def p2 (P : oa_P) (p q : Nat) : oa_P := upd (p1 P p q) (90 + q) (p1 P p q (90 + q) - p1 P p q (8 * q + 2))
/-- p wrongs q -/
def pw (R P : oa_P) (n p q : Nat) : oa_P := it (setr (wo R P p q) p) n (p2 P p q)
/-- whom p would wrong now -/
def cho (R P : oa_P) (n p : Nat) : Int32 := (chs R P n p (abs' R P p) n).1
def wk1 (R : oa_P) (n p : Nat) (s : oa_P × Int32) : oa_P × Int32 :=
  if cho R s.1 n p = oNO then s else
    (upd (upd (pw R s.1 n p (cho R s.1 n p).toNatClampNeg) 97 (pw R s.1 n p (cho R s.1 n p).toNatClampNeg 97 + pw R s.1 n p (cho R s.1 n p).toNatClampNeg (8 * (cho R s.1 n p).toNatClampNeg + 2))) 98 (pw R s.1 n p (cho R s.1 n p).toNatClampNeg 98 + 1), s.2 ||| ((1 : Int32) <<< (nI p &&& 31)))
def hu1 (r p : Nat) (P : oa_P) : oa_P :=
  if an P r p = true then upd (upd P (90 + p) (P (90 + p) - P (8 * r + 3))) (48 + (7 * r + p)) (P (48 + (7 * r + p)) + 1) else P
def pay (P : oa_P) (r p : Nat) : oa_P :=
  upd (upd (upd P (48 + (7 * r + p)) 0) (90 + p) (upd P (48 + (7 * r + p)) 0 (90 + p) - P (8 * r + 4))) (90 + r) (upd (upd P (48 + (7 * r + p)) 0) (90 + p) (upd P (48 + (7 * r + p)) 0 (90 + p) - P (8 * r + 4)) (90 + r) + P (8 * r + 4))
def en1 (R : oa_P) (r p : Nat) (P : oa_P) : oa_P :=
  if P (48 + (7 * r + p)) - 1 < 0 then P
  else if R 1 ≤ P (48 + (7 * r + p)) - 1 then upd P (48 + (7 * r + p)) 0
  else if P (8 * r + 5) ≤ P (48 + (7 * r + p)) - 1 ∧ P (8 * r + 4) < P (8 * r + 3) * (R 1 - (P (48 + (7 * r + p)) - 1)) then pay P r p
  else P
def hu (n : Nat) (P : oa_P) : oa_P := it (fun r => it (hu1 r) n) n P
def en (R : oa_P) (n : Nat) (P : oa_P) : oa_P := it (fun r => it (en1 R r) n) n P
def wka (R : oa_P) (n : Nat) (P : oa_P) : oa_P × Int32 := it (wk1 R n) n (P, 0)
/-- a week: the page behind it, who wronged somebody -/
def wk (R : oa_P) (n : Nat) (P : oa_P) : oa_P × Int32 := (upd (en R n (hu n (wka R n P).1)) 96 (en R n (hu n (wka R n P).1) 96 + 1), (wka R n P).2)
theorem setr_TR {m : Nat → Bool} {p k : Nat} {P : oa_P} (hk : k < 6) (hp : p < 6) : TR P (setr m p k P) := by
  unfold setr
  split
  · exact TR_upd (TR_refl P) (by omega) (by omega)
  · exact TR_refl P
theorem p2_TR {P : oa_P} {p q : Nat} (hp : p < 6) (hq : q < 6) : TR P (p2 P p q) := TR_upd (TR_upd (TR_refl P) (by omega) (by omega)) (by omega) (by omega)
theorem pw_TR {R P : oa_P} {n p q : Nat} (hn : n ≤ 6) (hp : p < 6) (hq : q < 6) : TR P (pw R P n p q) :=
  TR_trans (p2_TR hp hq) (it_TR (fun _ hk _ => setr_TR (by omega) hp) _)
theorem hu1_TR {r p : Nat} {P : oa_P} (hr : r < 6) (hp : p < 6) : TR P (hu1 r p P) := by
  unfold hu1
  split
  · exact TR_upd (TR_upd (TR_refl P) (by omega) (by omega)) (by omega) (by omega)
  · exact TR_refl P
theorem en1_TR {R : oa_P} {r p : Nat} {P : oa_P} (hr : r < 6) (hp : p < 6) : TR P (en1 R r p P) := by
  unfold en1 pay
  split
  · exact TR_refl P
  split
  · exact TR_upd (TR_refl P) (by omega) (by omega)
  split
  · exact TR_upd (TR_upd (TR_upd (TR_refl P) (by omega) (by omega)) (by omega) (by omega)) (by omega) (by omega)
  · exact TR_refl P
theorem cho_some (R P : oa_P) (n p : Nat) : cho R P n p = oNO ∨ ∃ q, q < n ∧ q ≠ p ∧ cho R P n p = nI q := chs_some R P n p _ n
theorem wk1_TR {R : oa_P} {n p : Nat} {s : oa_P × Int32} (hn : n ≤ 6) (hp : p < n) : TR s.1 (wk1 R n p s).1 := by
  unfold wk1
  rcases cho_some R s.1 n p with h | ⟨q, h1, _, h2⟩
  · rw [if_pos h]; exact TR_refl _
  · split
    · exact TR_refl _
    · rw [h2, nI_clamp (by omega)]
      exact TR_upd (TR_upd (pw_TR hn (by omega) (by omega)) (by omega) (by omega)) (by omega) (by omega)
theorem wka_TR {R : oa_P} {n : Nat} (hn : n ≤ 6) (s : oa_P × Int32) : ∀ i, i ≤ n → TR s.1 (it (wk1 R n) i s).1
  | 0, _ => TR_refl _
  | i + 1, h => TR_trans (wka_TR hn s i (by omega)) (wk1_TR hn (by omega))
theorem hu_TR {n : Nat} (hn : n ≤ 6) (P : oa_P) : TR P (hu n P) := it_TR (fun r hr Q => it_TR (fun p hp _ => hu1_TR (by omega) (by omega)) Q) P
theorem en_TR {R : oa_P} {n : Nat} (hn : n ≤ 6) (P : oa_P) : TR P (en R n P) := it_TR (fun r hr Q => it_TR (fun p hp _ => en1_TR (by omega) (by omega)) Q) P
theorem wk_TR {R : oa_P} {n : Nat} (hn : n ≤ 6) (P : oa_P) : TR P (wk R n P).1 :=
  TR_upd (TR_trans (TR_trans (wka_TR hn (P, 0) n (Nat.le_refl n)) (hu_TR hn _)) (en_TR hn _)) (by omega) (by omega)
/-! the model with another page at a, another row of who wronged -/
def oa_ms (M : oa_I2) (a : Nat) (P : oa_P) (w : Int32) : oa_I2 := fun b => if b = 1 then (fun k => if k < a then M 1 k else P (k - a)) else if b = 0 then upd (M 0) 9 w else M b
section MS
variable {M : oa_I2} {K : oa_J2} {a : Nat} {P P' : oa_P} {w w' : Int32}
theorem oa_ms_pg : oa_pg (oa_ms M a P w) a = P := by
  funext k
  show (if a + k < a then M 1 (a + k) else P (a + k - a)) = P k
  rw [if_neg (by omega), Nat.add_sub_cancel_left]
theorem oa_ms_2 : oa_ms M a P w 2 = M 2 := Eq.trans rfl rfl
theorem oa_ms_09 : oa_ms M a P w 0 9 = w := Eq.trans rfl rfl
theorem oa_ms_ms : oa_ms (oa_ms M a P w) a P' w' = oa_ms M a P' w' := by
  funext b
  unfold oa_ms
  by_cases h : b = 1
  · rw [if_pos h, if_pos h]
    funext k
    by_cases l : k < a
    · simp [l]
    · simp [l]
  · by_cases h0 : b = 0
    · subst h0
      exact upd_upd _ _ _ _
    · simp only [if_neg h, if_neg h0]
theorem oa_ms_id : oa_ms M a (oa_pg M a) (M 0 9) = M := by
  funext b
  unfold oa_ms oa_pg
  by_cases h : b = 1
  · rw [if_pos h, h]
    funext k
    by_cases l : k < a
    · rw [if_pos l]
    · rw [if_neg l, show a + (k - a) = k by omega]
  · rw [if_neg h]
    by_cases h0 : b = 0
    · rw [if_pos h0, h0]
      exact upd_id _ _
    · rw [if_neg h0]
theorem oa_ms_rd {k : Nat} (h : a + k < 600) : oa_rd (oa_ms M a P w 1) 600 (nI (a + k)) = some (P k) := by
  rw [md_rd _ a h, oa_ms_pg]
theorem oa_ms_up {k : Nat} {x : Int32} : va_up (oa_ms M a P w) 1 (upd (oa_ms M a P w 1) (a + k) x) = oa_ms M a (upd P k x) w := by
  funext b
  unfold va_up oa_ms
  by_cases h : b = 1
  · rw [if_pos h, if_pos h]
    funext j
    simp only [upd]
    by_cases e : j = a + k
    · rw [if_pos e, if_neg (by omega), if_pos (by omega)]
    · rw [if_neg e]
      show (if j < a then M 1 j else P (j - a)) = _
      by_cases l : j < a
      · rw [if_pos l, if_pos l]
      · rw [if_neg l, if_neg l, if_neg (by omega)]
  · rw [if_neg h, if_neg h, if_neg h]
theorem oa_ms_w {x : Int32} : va_up (oa_ms M a P w) 0 (upd (oa_ms M a P w 0) 9 x) = oa_ms M a P x := by
  funext b
  unfold va_up oa_ms
  by_cases h : b = 0
  · subst h
    exact upd_upd _ _ _ _
  · simp only [if_neg h]
theorem oa_ms_wr {k : Nat} {x : Int32} (h : a + k < 600) : oa_wr (oa_ms M a P w 1) 600 (nI (a + k)) x = some (upd (oa_ms M a P w 1) (a + k) x) := oa_wr_nI h (by omega)
/-- how many people there are, the page at a being P -/
def HN (M : oa_I2) (a n : Nat) (P : oa_P) : Prop := n ≤ 6 ∧ a ≤ 480 ∧ (a = 0 ∧ P 99 = nI n ∨ 100 ≤ a ∧ M 1 99 = nI n)
theorem HN_TR {n : Nat} (h : HN M a n P) (t : TR P P') : HN M a n P' := by
  obtain ⟨h1, h2, h3⟩ := h
  refine ⟨h1, h2, ?_⟩
  rcases h3 with ⟨h4, h5⟩ | h4
  · exact Or.inl ⟨h4, (t 99 (by omega)).trans h5⟩
  · exact Or.inr h4
theorem HN_ms {n : Nat} (h : HN M a n P) (w : Int32) : oa_ms M a P w 1 99 = nI n := by
  obtain ⟨h1, h2, h3⟩ := h
  show (if 99 < a then M 1 99 else P (99 - a)) = nI n
  rcases h3 with ⟨rfl, h5⟩ | ⟨h4, h5⟩
  · rw [if_neg (by omega)]; exact h5
  · rw [if_pos (by omega)]; exact h5
theorem HN_id {n : Nat} (h6 : n ≤ 6) (ha : a ≤ 480) (hn : M 1 99 = nI n) (h : a = 0 ∨ 100 ≤ a) : HN M a n (oa_pg M a) := by
  refine ⟨h6, ha, ?_⟩
  rcases h with h | h
  · subst h
    exact Or.inl ⟨rfl, by rw [oa_pg0]; exact hn⟩
  · exact Or.inr ⟨h, hn⟩
theorem md_wrongs {n p q : Nat} (h : HN M a n P) (hp : p < 6) (hq : q < 6) : f_X7_wrongs (oa_ms M a P w) K (nI a) (nI p) (nI q) = some (oa_ms M a (pw (M 2) P n p q) w) := by
  have h6 := h.1
  have ha := h.2.1
  unfold f_X7_wrongs l_X7_wrongs_66
  simp (disch := (first | omega | assumption | decide)) only [md_wouldOf (HN_ms h w), oa_ms_rd, oa_ms_wr, oa_ms_up, oa_ms_pg, oa_ms_2, oa_ut, oa_bs, oa_lt, oa_ile, oa_inle, oa_ilt, oa_inlt, oa_ieq, oa_ineq, oa_rd_0, oa_rd_1, oa_wr_0, oa_wr_1, oa_rdL_nI, oa_wrL_nI, oa_bi_if0, oa_bi_if1, oa_zc_bi, oa_if_b0, oa_if_b1, nI_1, nI_add, pk_mul, Nat.add_assoc, Int32.add_zero, Int32.sub_zero, Int32.or_zero, Int32.and_neg_one, ite_self, if_true, if_false, oa_10, oa_01, oa_neg4, oa_ifno, oa_l2, oa_l3, oa_l4, oa_l5, oa_l6, oa_l7, oa_l8, oa_l9, oa_l10, oa_l12, oa_l15, oa_l16, oa_l20, oa_l32, oa_l40, oa_l42, oa_l48, oa_l64, oa_l90, oa_l96, oa_l97, oa_l98, oa_l99, oa_l100, oa_l120, oa_l360, oa_l450, oa_l457, oa_l458, oa_l480, oa_l528]
  refine oa_for (fun i => (oa_ms M a (it (setr (wo (M 2) P p q) p) i (p2 P p q)) w, nI i)) n rfl ?_ ?_ _ (by rw [oa_fu_eq]; omega)
  · intro i hi k
    have hi' : HN M a n (it (setr (wo (M 2) P p q) p) i (p2 P p q)) := HN_TR h (TR_trans (p2_TR hp hq) (it_TR (fun _ hk _ => setr_TR (by omega) hp) _))
    simp (disch := (first | omega | assumption | decide)) only [b_X7_wrongs_66, md_many (HN_ms hi' w), oa_ms_wr, oa_ms_up, it_succ, setr, bt_mk, oa_ut, oa_bs, oa_lt, oa_ile, oa_inle, oa_ilt, oa_inlt, oa_ieq, oa_ineq, oa_rd_0, oa_rd_1, oa_wr_0, oa_wr_1, oa_rdL_nI, oa_wrL_nI, oa_bi_if0, oa_bi_if1, oa_zc_bi, oa_if_b0, oa_if_b1, nI_1, nI_add, pk_mul, Nat.add_assoc, Int32.add_zero, Int32.sub_zero, Int32.or_zero, Int32.and_neg_one, ite_self, if_true, if_false, oa_10, oa_01, oa_neg4, oa_ifno, oa_l2, oa_l3, oa_l4, oa_l5, oa_l6, oa_l7, oa_l8, oa_l9, oa_l10, oa_l12, oa_l15, oa_l16, oa_l20, oa_l32, oa_l40, oa_l42, oa_l48, oa_l64, oa_l90, oa_l96, oa_l97, oa_l98, oa_l99, oa_l100, oa_l120, oa_l360, oa_l450, oa_l457, oa_l458, oa_l480, oa_l528]
    cases wo (M 2) P p q i <;> rfl
  · intro k
    have hi' : HN M a n (it (setr (wo (M 2) P p q) p) n (p2 P p q)) := HN_TR h (pw_TR h6 hp hq)
    simp (disch := (first | omega | assumption | decide)) only [b_X7_wrongs_66, md_many (HN_ms hi' w), oa_ut, oa_bs, oa_lt, oa_ile, oa_inle, oa_ilt, oa_inlt, oa_ieq, oa_ineq, oa_rd_0, oa_rd_1, oa_wr_0, oa_wr_1, oa_rdL_nI, oa_wrL_nI, oa_bi_if0, oa_bi_if1, oa_zc_bi, oa_if_b0, oa_if_b1, nI_1, nI_add, pk_mul, Nat.add_assoc, Int32.add_zero, Int32.sub_zero, Int32.or_zero, Int32.and_neg_one, ite_self, if_true, if_false, oa_10, oa_01, oa_neg4, oa_ifno, oa_l2, oa_l3, oa_l4, oa_l5, oa_l6, oa_l7, oa_l8, oa_l9, oa_l10, oa_l12, oa_l15, oa_l16, oa_l20, oa_l32, oa_l40, oa_l42, oa_l48, oa_l64, oa_l90, oa_l96, oa_l97, oa_l98, oa_l99, oa_l100, oa_l120, oa_l360, oa_l450, oa_l457, oa_l458, oa_l480, oa_l528]
    rfl
theorem md_hurt_in {n r : Nat} {k2 : oa_I2 → Int32 → Option oa_I2} (h : HN M a n P) (hr : r < n) : l_X7_week_108 K (nI a) (nI r) k2 oa_fu (oa_ms M a P w) 0 = k2 (oa_ms M a (it (hu1 r) n P) w) (nI (r + 1)) := by
  have h6 := h.1
  have ha := h.2.1
  unfold l_X7_week_108
  refine oa_for (fun i => (oa_ms M a (it (hu1 r) i P) w, nI i)) n rfl ?_ ?_ _ (by rw [oa_fu_eq]; omega)
  · intro i hi k
    have hi' : HN M a n (it (hu1 r) i P) := HN_TR h (it_TR (fun _ hk _ => hu1_TR (by omega) (by omega)) _)
    simp (disch := (first | omega | assumption | decide)) only [b_X7_week_108, md_many (HN_ms hi' w), md_age, oa_ms_pg, oa_ms_rd, oa_ms_wr, oa_ms_up, it_succ, oa_ut, oa_bs, oa_lt, oa_ile, oa_inle, oa_ilt, oa_inlt, oa_ieq, oa_ineq, oa_rd_0, oa_rd_1, oa_wr_0, oa_wr_1, oa_rdL_nI, oa_wrL_nI, oa_bi_if0, oa_bi_if1, oa_zc_bi, oa_if_b0, oa_if_b1, nI_1, nI_add, pk_mul, Nat.add_assoc, Int32.add_zero, Int32.sub_zero, Int32.or_zero, Int32.and_neg_one, ite_self, if_true, if_false, oa_10, oa_01, oa_neg4, oa_ifno, oa_l2, oa_l3, oa_l4, oa_l5, oa_l6, oa_l7, oa_l8, oa_l9, oa_l10, oa_l12, oa_l15, oa_l16, oa_l20, oa_l32, oa_l40, oa_l42, oa_l48, oa_l64, oa_l90, oa_l96, oa_l97, oa_l98, oa_l99, oa_l100, oa_l120, oa_l360, oa_l450, oa_l457, oa_l458, oa_l480, oa_l528]
    generalize it (hu1 r) i P = Q
    unfold hu1
    by_cases l : 0 < Q (48 + (7 * r + i))
    · have e : an Q r i = true := decide_eq_true l
      rw [if_neg (Int32.not_le.mpr l), if_pos e, upd_n _ _ (by omega)]
    · have e : ¬ an Q r i = true := fun c => l (of_decide_eq_true c)
      rw [if_pos (Int32.not_lt.mp l), if_neg e]
  · intro k
    have hi' : HN M a n (it (hu1 r) n P) := HN_TR h (it_TR (fun _ hk _ => hu1_TR (by omega) (by omega)) _)
    simp (disch := (first | omega | assumption | decide)) only [b_X7_week_108, md_many (HN_ms hi' w), oa_ut, oa_bs, oa_lt, oa_ile, oa_inle, oa_ilt, oa_inlt, oa_ieq, oa_ineq, oa_rd_0, oa_rd_1, oa_wr_0, oa_wr_1, oa_rdL_nI, oa_wrL_nI, oa_bi_if0, oa_bi_if1, oa_zc_bi, oa_if_b0, oa_if_b1, nI_1, nI_add, pk_mul, Nat.add_assoc, Int32.add_zero, Int32.sub_zero, Int32.or_zero, Int32.and_neg_one, ite_self, if_true, if_false, oa_10, oa_01, oa_neg4, oa_ifno, oa_l2, oa_l3, oa_l4, oa_l5, oa_l6, oa_l7, oa_l8, oa_l9, oa_l10, oa_l12, oa_l15, oa_l16, oa_l20, oa_l32, oa_l40, oa_l42, oa_l48, oa_l64, oa_l90, oa_l96, oa_l97, oa_l98, oa_l99, oa_l100, oa_l120, oa_l360, oa_l450, oa_l457, oa_l458, oa_l480, oa_l528]
theorem md_ends_in {n r : Nat} {k2 : oa_I2 → Int32 → Option oa_I2} (h : HN M a n P) (hr : r < n) : l_X7_makesUp_12 K (nI a) (nI r) k2 oa_fu (oa_ms M a P w) 0 = k2 (oa_ms M a (it (en1 (M 2) r) n P) w) (nI (r + 1)) := by
  have h6 := h.1
  have ha := h.2.1
  unfold l_X7_makesUp_12
  refine oa_for (fun i => (oa_ms M a (it (en1 (M 2) r) i P) w, nI i)) n rfl ?_ ?_ _ (by rw [oa_fu_eq]; omega)
  · intro i hi k
    have hi' : HN M a n (it (en1 (M 2) r) i P) := HN_TR h (it_TR (fun _ hk _ => en1_TR (by omega) (by omega)) _)
    rw [it_succ]
    generalize it (en1 (M 2) r) i P = Q at hi'
    simp (disch := (first | omega | assumption | decide)) only [b_X7_makesUp_12, md_many (HN_ms hi' w), md_age, oa_ms_pg, oa_ms_rd, oa_ms_2, oa_ut, oa_bs, oa_lt, oa_ile, oa_inle, oa_ilt, oa_inlt, oa_ieq, oa_ineq, oa_rd_0, oa_rd_1, oa_wr_0, oa_wr_1, oa_rdL_nI, oa_wrL_nI, oa_bi_if0, oa_bi_if1, oa_zc_bi, oa_if_b0, oa_if_b1, nI_1, nI_add, pk_mul, Nat.add_assoc, Int32.add_zero, Int32.sub_zero, Int32.or_zero, Int32.and_neg_one, ite_self, if_true, if_false, oa_10, oa_01, oa_neg4, oa_ifno, oa_l2, oa_l3, oa_l4, oa_l5, oa_l6, oa_l7, oa_l8, oa_l9, oa_l10, oa_l12, oa_l15, oa_l16, oa_l20, oa_l32, oa_l40, oa_l42, oa_l48, oa_l64, oa_l90, oa_l96, oa_l97, oa_l98, oa_l99, oa_l100, oa_l120, oa_l360, oa_l450, oa_l457, oa_l458, oa_l480, oa_l528]
    unfold en1
    by_cases l : Q (48 + (7 * r + i)) - 1 < 0
    · rw [if_pos l]
      by_cases g : Q (48 + (7 * r + i)) - 1 < M 2 1
      · rw [if_pos g]
        unfold b_X7_makesUp_62
        simp (disch := (first | omega | assumption | decide)) only [b_X7_makesUp_120, if_pos l, oa_ms_rd, oa_ms_2, oa_ut, oa_bs, oa_lt, oa_ile, oa_inle, oa_ilt, oa_inlt, oa_ieq, oa_ineq, oa_rd_0, oa_rd_1, oa_wr_0, oa_wr_1, oa_rdL_nI, oa_wrL_nI, oa_bi_if0, oa_bi_if1, oa_zc_bi, oa_if_b0, oa_if_b1, nI_1, nI_add, pk_mul, Nat.add_assoc, Int32.add_zero, Int32.sub_zero, Int32.or_zero, Int32.and_neg_one, ite_self, if_true, if_false, oa_10, oa_01, oa_neg4, oa_ifno, oa_l2, oa_l3, oa_l4, oa_l5, oa_l6, oa_l7, oa_l8, oa_l9, oa_l10, oa_l12, oa_l15, oa_l16, oa_l20, oa_l32, oa_l40, oa_l42, oa_l48, oa_l64, oa_l90, oa_l96, oa_l97, oa_l98, oa_l99, oa_l100, oa_l120, oa_l360, oa_l450, oa_l457, oa_l458, oa_l480, oa_l528]
      · rw [if_neg g]
        simp (disch := (first | omega | assumption | decide)) only [b_X7_makesUp_62, b_X7_makesUp_120, if_pos l, oa_ut, oa_bs, oa_lt, oa_ile, oa_inle, oa_ilt, oa_inlt, oa_ieq, oa_ineq, oa_rd_0, oa_rd_1, oa_wr_0, oa_wr_1, oa_rdL_nI, oa_wrL_nI, oa_bi_if0, oa_bi_if1, oa_zc_bi, oa_if_b0, oa_if_b1, nI_1, nI_add, pk_mul, Nat.add_assoc, Int32.add_zero, Int32.sub_zero, Int32.or_zero, Int32.and_neg_one, ite_self, if_true, if_false, oa_10, oa_01, oa_neg4, oa_ifno, oa_l2, oa_l3, oa_l4, oa_l5, oa_l6, oa_l7, oa_l8, oa_l9, oa_l10, oa_l12, oa_l15, oa_l16, oa_l20, oa_l32, oa_l40, oa_l42, oa_l48, oa_l64, oa_l90, oa_l96, oa_l97, oa_l98, oa_l99, oa_l100, oa_l120, oa_l360, oa_l450, oa_l457, oa_l458, oa_l480, oa_l528]
    · rw [if_neg l]
      by_cases g : Q (48 + (7 * r + i)) - 1 < M 2 1
      · rw [if_pos g, if_neg (Int32.not_le.mpr g)]
        simp (disch := (first | omega | assumption | decide)) only [b_X7_makesUp_62, b_X7_makesUp_120, if_neg l, oa_ms_rd, oa_ms_2, oa_ut, oa_bs, oa_lt, oa_ile, oa_inle, oa_ilt, oa_inlt, oa_ieq, oa_ineq, oa_rd_0, oa_rd_1, oa_wr_0, oa_wr_1, oa_rdL_nI, oa_wrL_nI, oa_bi_if0, oa_bi_if1, oa_zc_bi, oa_if_b0, oa_if_b1, nI_1, nI_add, pk_mul, Nat.add_assoc, Int32.add_zero, Int32.sub_zero, Int32.or_zero, Int32.and_neg_one, ite_self, if_true, if_false, oa_10, oa_01, oa_neg4, oa_ifno, oa_l2, oa_l3, oa_l4, oa_l5, oa_l6, oa_l7, oa_l8, oa_l9, oa_l10, oa_l12, oa_l15, oa_l16, oa_l20, oa_l32, oa_l40, oa_l42, oa_l48, oa_l64, oa_l90, oa_l96, oa_l97, oa_l98, oa_l99, oa_l100, oa_l120, oa_l360, oa_l450, oa_l457, oa_l458, oa_l480, oa_l528]
        by_cases d : Q (48 + (7 * r + i)) - 1 < Q (8 * r + 5)
        · rw [if_pos d, if_neg (fun c => Int32.not_le.mpr d c.1)]
        · rw [if_neg d]
          by_cases c : Q (8 * r + 3) * (M 2 1 - (Q (48 + (7 * r + i)) - 1)) ≤ Q (8 * r + 4)
          · rw [if_pos c, if_neg (fun e => Int32.not_le.mpr e.2 c)]
          · rw [if_neg c, if_pos ⟨Int32.not_lt.mp d, Int32.not_le.mp c⟩]
            simp (disch := (first | omega | assumption | decide)) only [b_X7_makesUp_137, b_X7_makesUp_177, b_X7_makesUp_202, oa_ms_rd, oa_ms_wr, oa_ms_up, oa_ut, oa_bs, oa_lt, oa_ile, oa_inle, oa_ilt, oa_inlt, oa_ieq, oa_ineq, oa_rd_0, oa_rd_1, oa_wr_0, oa_wr_1, oa_rdL_nI, oa_wrL_nI, oa_bi_if0, oa_bi_if1, oa_zc_bi, oa_if_b0, oa_if_b1, nI_1, nI_add, pk_mul, Nat.add_assoc, Int32.add_zero, Int32.sub_zero, Int32.or_zero, Int32.and_neg_one, ite_self, if_true, if_false, oa_10, oa_01, oa_neg4, oa_ifno, oa_l2, oa_l3, oa_l4, oa_l5, oa_l6, oa_l7, oa_l8, oa_l9, oa_l10, oa_l12, oa_l15, oa_l16, oa_l20, oa_l32, oa_l40, oa_l42, oa_l48, oa_l64, oa_l90, oa_l96, oa_l97, oa_l98, oa_l99, oa_l100, oa_l120, oa_l360, oa_l450, oa_l457, oa_l458, oa_l480, oa_l528]
            rfl
      · rw [if_neg g, if_pos (Int32.not_lt.mp g)]
        simp (disch := (first | omega | assumption | decide)) only [b_X7_makesUp_62, b_X7_makesUp_120, if_neg l, oa_ut, oa_bs, oa_lt, oa_ile, oa_inle, oa_ilt, oa_inlt, oa_ieq, oa_ineq, oa_rd_0, oa_rd_1, oa_wr_0, oa_wr_1, oa_rdL_nI, oa_wrL_nI, oa_bi_if0, oa_bi_if1, oa_zc_bi, oa_if_b0, oa_if_b1, nI_1, nI_add, pk_mul, Nat.add_assoc, Int32.add_zero, Int32.sub_zero, Int32.or_zero, Int32.and_neg_one, ite_self, if_true, if_false, oa_10, oa_01, oa_neg4, oa_ifno, oa_l2, oa_l3, oa_l4, oa_l5, oa_l6, oa_l7, oa_l8, oa_l9, oa_l10, oa_l12, oa_l15, oa_l16, oa_l20, oa_l32, oa_l40, oa_l42, oa_l48, oa_l64, oa_l90, oa_l96, oa_l97, oa_l98, oa_l99, oa_l100, oa_l120, oa_l360, oa_l450, oa_l457, oa_l458, oa_l480, oa_l528]
        unfold b_X7_makesUp_137
        simp (disch := (first | omega | assumption | decide)) only [oa_ms_rd, oa_ms_wr, oa_ms_up, oa_ut, oa_bs, oa_lt, oa_ile, oa_inle, oa_ilt, oa_inlt, oa_ieq, oa_ineq, oa_rd_0, oa_rd_1, oa_wr_0, oa_wr_1, oa_rdL_nI, oa_wrL_nI, oa_bi_if0, oa_bi_if1, oa_zc_bi, oa_if_b0, oa_if_b1, nI_1, nI_add, pk_mul, Nat.add_assoc, Int32.add_zero, Int32.sub_zero, Int32.or_zero, Int32.and_neg_one, ite_self, if_true, if_false, oa_10, oa_01, oa_neg4, oa_ifno, oa_l2, oa_l3, oa_l4, oa_l5, oa_l6, oa_l7, oa_l8, oa_l9, oa_l10, oa_l12, oa_l15, oa_l16, oa_l20, oa_l32, oa_l40, oa_l42, oa_l48, oa_l64, oa_l90, oa_l96, oa_l97, oa_l98, oa_l99, oa_l100, oa_l120, oa_l360, oa_l450, oa_l457, oa_l458, oa_l480, oa_l528]
        unfold b_X7_makesUp_177
        simp (disch := (first | omega | assumption | decide)) only [oa_ms_rd, oa_ms_wr, oa_ms_up, upd_id, oa_ut, oa_bs, oa_lt, oa_ile, oa_inle, oa_ilt, oa_inlt, oa_ieq, oa_ineq, oa_rd_0, oa_rd_1, oa_wr_0, oa_wr_1, oa_rdL_nI, oa_wrL_nI, oa_bi_if0, oa_bi_if1, oa_zc_bi, oa_if_b0, oa_if_b1, nI_1, nI_add, pk_mul, Nat.add_assoc, Int32.add_zero, Int32.sub_zero, Int32.or_zero, Int32.and_neg_one, ite_self, if_true, if_false, oa_10, oa_01, oa_neg4, oa_ifno, oa_l2, oa_l3, oa_l4, oa_l5, oa_l6, oa_l7, oa_l8, oa_l9, oa_l10, oa_l12, oa_l15, oa_l16, oa_l20, oa_l32, oa_l40, oa_l42, oa_l48, oa_l64, oa_l90, oa_l96, oa_l97, oa_l98, oa_l99, oa_l100, oa_l120, oa_l360, oa_l450, oa_l457, oa_l458, oa_l480, oa_l528]
        unfold b_X7_makesUp_202
        simp (disch := (first | omega | assumption | decide)) only [oa_ms_rd, oa_ms_wr, oa_ms_up, upd_id, oa_ut, oa_bs, oa_lt, oa_ile, oa_inle, oa_ilt, oa_inlt, oa_ieq, oa_ineq, oa_rd_0, oa_rd_1, oa_wr_0, oa_wr_1, oa_rdL_nI, oa_wrL_nI, oa_bi_if0, oa_bi_if1, oa_zc_bi, oa_if_b0, oa_if_b1, nI_1, nI_add, pk_mul, Nat.add_assoc, Int32.add_zero, Int32.sub_zero, Int32.or_zero, Int32.and_neg_one, ite_self, if_true, if_false, oa_10, oa_01, oa_neg4, oa_ifno, oa_l2, oa_l3, oa_l4, oa_l5, oa_l6, oa_l7, oa_l8, oa_l9, oa_l10, oa_l12, oa_l15, oa_l16, oa_l20, oa_l32, oa_l40, oa_l42, oa_l48, oa_l64, oa_l90, oa_l96, oa_l97, oa_l98, oa_l99, oa_l100, oa_l120, oa_l360, oa_l450, oa_l457, oa_l458, oa_l480, oa_l528]
  · intro k
    have hi' : HN M a n (it (en1 (M 2) r) n P) := HN_TR h (it_TR (fun _ hk _ => en1_TR (by omega) (by omega)) _)
    simp (disch := (first | omega | assumption | decide)) only [b_X7_makesUp_12, md_many (HN_ms hi' w), oa_ut, oa_bs, oa_lt, oa_ile, oa_inle, oa_ilt, oa_inlt, oa_ieq, oa_ineq, oa_rd_0, oa_rd_1, oa_wr_0, oa_wr_1, oa_rdL_nI, oa_wrL_nI, oa_bi_if0, oa_bi_if1, oa_zc_bi, oa_if_b0, oa_if_b1, nI_1, nI_add, pk_mul, Nat.add_assoc, Int32.add_zero, Int32.sub_zero, Int32.or_zero, Int32.and_neg_one, ite_self, if_true, if_false, oa_10, oa_01, oa_neg4, oa_ifno, oa_l2, oa_l3, oa_l4, oa_l5, oa_l6, oa_l7, oa_l8, oa_l9, oa_l10, oa_l12, oa_l15, oa_l16, oa_l20, oa_l32, oa_l40, oa_l42, oa_l48, oa_l64, oa_l90, oa_l96, oa_l97, oa_l98, oa_l99, oa_l100, oa_l120, oa_l360, oa_l450, oa_l457, oa_l458, oa_l480, oa_l528]
theorem md_makesUp {n : Nat} (h : HN M a n P) : f_X7_makesUp (oa_ms M a P w) K (nI a) = some (oa_ms M a (en (M 2) n P) w) := by
  have h6 := h.1
  unfold f_X7_makesUp l_X7_makesUp_2
  refine oa_for (fun i => (oa_ms M a (it (fun r => it (en1 (M 2) r) n) i P) w, nI i)) n rfl ?_ ?_ _ (by rw [oa_fu_eq]; omega)
  · intro i hi k
    have hi' : HN M a n (it (fun r => it (en1 (M 2) r) n) i P) := HN_TR h (it_TR (fun r hr Q => it_TR (fun p hp _ => en1_TR (by omega) (by omega)) Q) P)
    simp (disch := (first | omega | assumption | decide)) only [b_X7_makesUp_2, md_many (HN_ms hi' w), md_ends_in hi', it_succ, oa_ut, oa_bs, oa_lt, oa_ile, oa_inle, oa_ilt, oa_inlt, oa_ieq, oa_ineq, oa_rd_0, oa_rd_1, oa_wr_0, oa_wr_1, oa_rdL_nI, oa_wrL_nI, oa_bi_if0, oa_bi_if1, oa_zc_bi, oa_if_b0, oa_if_b1, nI_1, nI_add, pk_mul, Nat.add_assoc, Int32.add_zero, Int32.sub_zero, Int32.or_zero, Int32.and_neg_one, ite_self, if_true, if_false, oa_10, oa_01, oa_neg4, oa_ifno, oa_l2, oa_l3, oa_l4, oa_l5, oa_l6, oa_l7, oa_l8, oa_l9, oa_l10, oa_l12, oa_l15, oa_l16, oa_l20, oa_l32, oa_l40, oa_l42, oa_l48, oa_l64, oa_l90, oa_l96, oa_l97, oa_l98, oa_l99, oa_l100, oa_l120, oa_l360, oa_l450, oa_l457, oa_l458, oa_l480, oa_l528]
  · intro k
    have hi' : HN M a n (it (fun r => it (en1 (M 2) r) n) n P) := HN_TR h (en_TR h6 P)
    simp (disch := (first | omega | assumption | decide)) only [b_X7_makesUp_2, md_many (HN_ms hi' w), oa_ut, oa_bs, oa_lt, oa_ile, oa_inle, oa_ilt, oa_inlt, oa_ieq, oa_ineq, oa_rd_0, oa_rd_1, oa_wr_0, oa_wr_1, oa_rdL_nI, oa_wrL_nI, oa_bi_if0, oa_bi_if1, oa_zc_bi, oa_if_b0, oa_if_b1, nI_1, nI_add, pk_mul, Nat.add_assoc, Int32.add_zero, Int32.sub_zero, Int32.or_zero, Int32.and_neg_one, ite_self, if_true, if_false, oa_10, oa_01, oa_neg4, oa_ifno, oa_l2, oa_l3, oa_l4, oa_l5, oa_l6, oa_l7, oa_l8, oa_l9, oa_l10, oa_l12, oa_l15, oa_l16, oa_l20, oa_l32, oa_l40, oa_l42, oa_l48, oa_l64, oa_l90, oa_l96, oa_l97, oa_l98, oa_l99, oa_l100, oa_l120, oa_l360, oa_l450, oa_l457, oa_l458, oa_l480, oa_l528]
    rfl
theorem md_hurts {n : Nat} (h : HN M a n P) : l_X7_week_98 K (nI a) oa_fu (oa_ms M a P w) 0 = some (oa_ms M a (upd (en (M 2) n (hu n P)) 96 (en (M 2) n (hu n P) 96 + 1)) w) := by
  have h6 := h.1
  have ha := h.2.1
  unfold l_X7_week_98
  refine oa_for (fun i => (oa_ms M a (it (fun r => it (hu1 r) n) i P) w, nI i)) n rfl ?_ ?_ _ (by rw [oa_fu_eq]; omega)
  · intro i hi k
    have hi' : HN M a n (it (fun r => it (hu1 r) n) i P) := HN_TR h (it_TR (fun r hr Q => it_TR (fun p hp _ => hu1_TR (by omega) (by omega)) Q) P)
    simp (disch := (first | omega | assumption | decide)) only [b_X7_week_98, md_many (HN_ms hi' w), md_hurt_in hi', it_succ, oa_ut, oa_bs, oa_lt, oa_ile, oa_inle, oa_ilt, oa_inlt, oa_ieq, oa_ineq, oa_rd_0, oa_rd_1, oa_wr_0, oa_wr_1, oa_rdL_nI, oa_wrL_nI, oa_bi_if0, oa_bi_if1, oa_zc_bi, oa_if_b0, oa_if_b1, nI_1, nI_add, pk_mul, Nat.add_assoc, Int32.add_zero, Int32.sub_zero, Int32.or_zero, Int32.and_neg_one, ite_self, if_true, if_false, oa_10, oa_01, oa_neg4, oa_ifno, oa_l2, oa_l3, oa_l4, oa_l5, oa_l6, oa_l7, oa_l8, oa_l9, oa_l10, oa_l12, oa_l15, oa_l16, oa_l20, oa_l32, oa_l40, oa_l42, oa_l48, oa_l64, oa_l90, oa_l96, oa_l97, oa_l98, oa_l99, oa_l100, oa_l120, oa_l360, oa_l450, oa_l457, oa_l458, oa_l480, oa_l528]
  · intro k
    have hi' : HN M a n (hu n P) := HN_TR h (hu_TR h6 P)
    show b_X7_week_98 K (nI a) (fun M x2 => k (M, x2)) (oa_ms M a (hu n P) w) (nI n) = _
    simp (disch := (first | omega | assumption | decide)) only [b_X7_week_98, md_many (HN_ms hi' w), md_makesUp hi', oa_ms_rd, oa_ms_wr, oa_ms_up, oa_ut, oa_bs, oa_lt, oa_ile, oa_inle, oa_ilt, oa_inlt, oa_ieq, oa_ineq, oa_rd_0, oa_rd_1, oa_wr_0, oa_wr_1, oa_rdL_nI, oa_wrL_nI, oa_bi_if0, oa_bi_if1, oa_zc_bi, oa_if_b0, oa_if_b1, nI_1, nI_add, pk_mul, Nat.add_assoc, Int32.add_zero, Int32.sub_zero, Int32.or_zero, Int32.and_neg_one, ite_self, if_true, if_false, oa_10, oa_01, oa_neg4, oa_ifno, oa_l2, oa_l3, oa_l4, oa_l5, oa_l6, oa_l7, oa_l8, oa_l9, oa_l10, oa_l12, oa_l15, oa_l16, oa_l20, oa_l32, oa_l40, oa_l42, oa_l48, oa_l64, oa_l90, oa_l96, oa_l97, oa_l98, oa_l99, oa_l100, oa_l120, oa_l360, oa_l450, oa_l457, oa_l458, oa_l480, oa_l528]
theorem abs_bt {R : oa_P} {n p r : Nat} (hn : n ≤ 6) (hr : r < n) : (bt (oa_mk (sn R P) n) r && can P p r) = abs' R P p r := by
  rw [bt_mk (by omega) hr]; rfl
theorem md_week {n : Nat} (h : HN M a n P) : f_X7_week (oa_ms M a P w) K (nI a) = some (oa_ms M a (wk (M 2) n P).1 (wk (M 2) n P).2) := by
  have h6 := h.1
  have ha := h.2.1
  unfold f_X7_week l_X7_week_7
  simp (disch := (first | omega | assumption | decide)) only [oa_ms_w, oa_ut, oa_bs, oa_lt, oa_ile, oa_inle, oa_ilt, oa_inlt, oa_ieq, oa_ineq, oa_rd_0, oa_rd_1, oa_wr_0, oa_wr_1, oa_rdL_nI, oa_wrL_nI, oa_bi_if0, oa_bi_if1, oa_zc_bi, oa_if_b0, oa_if_b1, nI_1, nI_add, pk_mul, Nat.add_assoc, Int32.add_zero, Int32.sub_zero, Int32.or_zero, Int32.and_neg_one, ite_self, if_true, if_false, oa_10, oa_01, oa_neg4, oa_ifno, oa_l2, oa_l3, oa_l4, oa_l5, oa_l6, oa_l7, oa_l8, oa_l9, oa_l10, oa_l12, oa_l15, oa_l16, oa_l20, oa_l32, oa_l40, oa_l42, oa_l48, oa_l64, oa_l90, oa_l96, oa_l97, oa_l98, oa_l99, oa_l100, oa_l120, oa_l360, oa_l450, oa_l457, oa_l458, oa_l480, oa_l528]
  refine oa_for (fun i => (oa_ms M a (it (wk1 (M 2) n) i (P, 0)).1 (it (wk1 (M 2) n) i (P, 0)).2, nI i)) n rfl ?_ ?_ _ (by rw [oa_fu_eq]; omega)
  · intro i hi k
    have hi' : HN M a n (it (wk1 (M 2) n) i (P, 0)).1 := HN_TR h (wka_TR h6 (P, 0) i (by omega))
    rw [it_succ]
    generalize it (wk1 (M 2) n) i (P, 0) = s at hi'
    obtain ⟨Q, v⟩ := s
    have hi' : HN M a n Q := hi'
    have hc : (chs (M 2) Q n i (fun r => bt (oa_mk (sn (M 2) Q) n) r && can Q i r) n).1 = cho (M 2) Q n i := by
      unfold cho
      rw [chs_cong (fun r hr => abs_bt h6 hr)]
    simp (disch := (first | omega | assumption | decide)) only [b_X7_week_7, md_many (HN_ms hi' v), md_seenFree (HN_ms hi' v), md_chosen (HN_ms hi' v), oa_ms_pg, oa_ms_2, hc, oa_ut, oa_bs, oa_lt, oa_ile, oa_inle, oa_ilt, oa_inlt, oa_ieq, oa_ineq, oa_rd_0, oa_rd_1, oa_wr_0, oa_wr_1, oa_rdL_nI, oa_wrL_nI, oa_bi_if0, oa_bi_if1, oa_zc_bi, oa_if_b0, oa_if_b1, nI_1, nI_add, pk_mul, Nat.add_assoc, Int32.add_zero, Int32.sub_zero, Int32.or_zero, Int32.and_neg_one, ite_self, if_true, if_false, oa_10, oa_01, oa_neg4, oa_ifno, oa_l2, oa_l3, oa_l4, oa_l5, oa_l6, oa_l7, oa_l8, oa_l9, oa_l10, oa_l12, oa_l15, oa_l16, oa_l20, oa_l32, oa_l40, oa_l42, oa_l48, oa_l64, oa_l90, oa_l96, oa_l97, oa_l98, oa_l99, oa_l100, oa_l120, oa_l360, oa_l450, oa_l457, oa_l458, oa_l480, oa_l528]
    unfold wk1
    rcases cho_some (M 2) Q n i with h1 | ⟨q, h1, h2, h3⟩
    · rw [if_pos h1, if_pos h1]
    · have hne : ¬ nI q = oNO := oa_no (by omega)
      simp only [h3, if_neg hne, nI_clamp (show q < 2 ^ 31 by omega)]
      simp (disch := (first | omega | assumption | decide)) only [md_wrongs hi', oa_ms_rd, oa_ms_wr, oa_ms_up, oa_ms_w, oa_ms_09, oa_ut, oa_bs, oa_lt, oa_ile, oa_inle, oa_ilt, oa_inlt, oa_ieq, oa_ineq, oa_rd_0, oa_rd_1, oa_wr_0, oa_wr_1, oa_rdL_nI, oa_wrL_nI, oa_bi_if0, oa_bi_if1, oa_zc_bi, oa_if_b0, oa_if_b1, nI_1, nI_add, pk_mul, Nat.add_assoc, Int32.add_zero, Int32.sub_zero, Int32.or_zero, Int32.and_neg_one, ite_self, if_true, if_false, oa_10, oa_01, oa_neg4, oa_ifno, oa_l2, oa_l3, oa_l4, oa_l5, oa_l6, oa_l7, oa_l8, oa_l9, oa_l10, oa_l12, oa_l15, oa_l16, oa_l20, oa_l32, oa_l40, oa_l42, oa_l48, oa_l64, oa_l90, oa_l96, oa_l97, oa_l98, oa_l99, oa_l100, oa_l120, oa_l360, oa_l450, oa_l457, oa_l458, oa_l480, oa_l528]
      rw [upd_n _ _ (show (98 : Nat) ≠ 97 by omega)]
  · intro k
    have hi' : HN M a n (wka (M 2) n P).1 := HN_TR h (wka_TR h6 (P, 0) n (by omega))
    show b_X7_week_7 K (nI a) (fun M x2 => k (M, x2)) (oa_ms M a (wka (M 2) n P).1 (wka (M 2) n P).2) (nI n) = _
    simp (disch := (first | omega | assumption | decide)) only [b_X7_week_7, md_many (HN_ms hi' _), md_hurts hi', oa_ut, oa_bs, oa_lt, oa_ile, oa_inle, oa_ilt, oa_inlt, oa_ieq, oa_ineq, oa_rd_0, oa_rd_1, oa_wr_0, oa_wr_1, oa_rdL_nI, oa_wrL_nI, oa_bi_if0, oa_bi_if1, oa_zc_bi, oa_if_b0, oa_if_b1, nI_1, nI_add, pk_mul, Nat.add_assoc, Int32.add_zero, Int32.sub_zero, Int32.or_zero, Int32.and_neg_one, ite_self, if_true, if_false, oa_10, oa_01, oa_neg4, oa_ifno, oa_l2, oa_l3, oa_l4, oa_l5, oa_l6, oa_l7, oa_l8, oa_l9, oa_l10, oa_l12, oa_l15, oa_l16, oa_l20, oa_l32, oa_l40, oa_l42, oa_l48, oa_l64, oa_l90, oa_l96, oa_l97, oa_l98, oa_l99, oa_l100, oa_l120, oa_l360, oa_l450, oa_l457, oa_l458, oa_l480, oa_l528]
    rfl
end MS
