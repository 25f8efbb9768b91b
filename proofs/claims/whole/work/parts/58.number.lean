/-! numbers, and a broken reading -/
/-- what a token and a number leave alone -/
def FS (T T' : oa_I2) : Prop := (∀ a, a ≠ 1 → T' a = T a) ∧ T' 1 0 = T 1 0 ∧ T' 1 3 = T 1 3 ∧ T' 1 8 = T 1 8
section NU
variable {T M V : oa_I2} {K : oa_J2} {t : Nat} {f : Nat → Nat}
theorem FS_refl (T : oa_I2) : FS T T := ⟨fun _ _ => rfl, rfl, rfl, rfl⟩
theorem FS_of {T T' : oa_I2} (h : FT T T') : FS T T' := ⟨h.1, h.2 0 (by omega) (by omega) (by omega) (by omega) (by omega), h.2 3 (by omega) (by omega) (by omega) (by omega) (by omega), h.2 8 (by omega) (by omega) (by omega) (by omega) (by omega)⟩
theorem FS_trans {X Y Z : oa_I2} (h : FS X Y) (g : FS Y Z) : FS X Z := ⟨fun a ha => (g.1 a ha).trans (h.1 a ha), g.2.1.trans h.2.1, g.2.2.1.trans h.2.2.1, g.2.2.2.trans h.2.2.2⟩
theorem TP_S {T' M' : oa_I2} (h : TP t f T M) (ht : FS T T') (hm : FM M M') : TP t f T' M' := by
  obtain ⟨h1, h2, h3, h4⟩ := h
  exact ⟨h1, ht.2.1.trans h2, (hm.2 0 (by omega)).trans h3, fun k hk => by rw [ht.1 0 (by omega), hm.1 5 (by omega)]; exact h4 k hk⟩
theorem OK_HM {s e k : Nat} (ho : OKt t f T M s e k) : HM t M s e k := by
  obtain ⟨o1, o2, o3, o4, o5, o6, o7, o8, o9, o10, o11, o12, o13, o14⟩ := ho
  exact ⟨o2, o4, o6, o7, o10, o11⟩
/-- both fail alike -/
theorem both_fail {s e k c : Nat} {x : Int32} (ho : OKt t f T M s e k) (h0 : 0 < c) (h7 : c ≤ 7) (hx : x = nI c) : ∃ T' M', f_X4_fail T V x (T 1 6) = some (0, T') ∧ f_X7_fails M K x = some M' ∧ FT T T' ∧ FM M M' ∧ BRt t T' M' := by
  obtain ⟨o1, o2, o3, o4, o5, o6, o7, o8, o9, o10, o11, o12, o13, o14⟩ := ho
  rw [f_fail, f_fails o9, o3, o4, hx]
  refine ⟨_, _, rfl, rfl, FT_up (FT_up (FT_refl T) (by omega)) (by omega), FM_up (FM_up (FM_refl M) (by omega)) (by omega), ⟨c, s, h0, h7, ?_, ?_, rd1 _ _ _, rd0 _ _ _⟩, s, e, k, ?_, ?_, ?_, o7, o10, o11⟩
  · rw [rd1n _ _ (by omega), rd1]
  · rw [rd0n _ _ (by omega), rd0]
  · rw [rd0n _ _ (by omega), rd0n _ _ (by omega)]; exact o2
  · rw [rd0n _ _ (by omega), rd0n _ _ (by omega)]; exact o4
  · rw [rd0n _ _ (by omega), rd0n _ _ (by omega)]; exact o6
theorem both_mis {s e k : Nat} (ho : OKt t f T M s e k) : ∃ T' M', f_X4_misplaced T V = some (0, T') ∧ f_X7_fails M K 2 = some M' ∧ FT T T' ∧ FM M M' ∧ BRt t T' M' := by
  obtain ⟨T', M', h1, h2, h3, h4, h5⟩ := both_fail (K := K) (V := V) (c := 2) (x := 2) ho (by omega) (by omega) rfl
  refine ⟨T', M', ?_, h2, h3, h4, h5⟩
  unfold f_X4_misplaced
  rw [h1]
  rfl
theorem br_ne (h : BRt t T M) : ¬ M 0 2 = 0 := by
  obtain ⟨⟨c, s, h0, h7, h1, h2, h3, h4⟩, _⟩ := h
  rw [h2]
  exact nI_neq (b := 0) (by omega) (by omega) (by omega)
theorem br_gt (h : BRt t T M) : ¬ M 0 2 ≤ 0 := by
  obtain ⟨⟨c, s, h0, h7, h1, h2, h3, h4⟩, _⟩ := h
  rw [h2]
  exact nI_ge (a := 0) (by omega) (by omega)
theorem br_step (h : BRt t T M) : f_X7_step M K = some M := by
  unfold f_X7_step
  rw [if_neg (br_gt h)]
theorem br_fails {c : Int32} (h : BRt t T M) : f_X7_fails M K c = some M := f_fails_b (br_ne h)
theorem br_number {lo hi : Int32} (h : BRt t T M) : f_X7_number M K lo hi = some (lo, M) := by
  unfold f_X7_number b_X7_number_20 b_X7_number_47 b_X7_number_62
  rw [if_neg (br_ne h), if_neg (br_ne h), if_neg (br_ne h), br_step h]
  rfl
theorem cl_value {s e k : Nat} (h : TP t f T M) (ho : OKt t f T M s e k) : f_X4_valueOfToken T V = some (vI f s (e - s)) := by
  obtain ⟨o1, o2, o3, o4, o5, o6, o7, o8, o9, o10, o11, o12, o13, o14⟩ := ho
  have ht := h.1
  unfold f_X4_valueOfToken
  simp only [oa_lt]
  rw [o3]
  unfold l_X4_valueOfToken_7
  refine oa_for (fun i => (vI f s i, nI (s + i))) (e - s) rfl ?_ ?_ oa_fu (by rw [oa_fu_eq]; omega)
  · intro i hi kk
    have hd := h.2.2.2 (s + i) (by omega)
    show b_X4_valueOfToken_7 T V (fun a b => kk (a, b)) (vI f s i) (nI (s + i)) = _
    unfold b_X4_valueOfToken_7
    rw [o1, if_neg (nI_ge (by omega) (by omega)), oa_rd_nI (by omega) (by omega), hd.2.1]
    simp only [oa_bs, oa_lt]
    rw [nI_1, Nat.add_assoc]
    rfl
  · intro kk
    show b_X4_valueOfToken_7 T V (fun a b => kk (a, b)) (vI f s (e - s)) (nI (s + (e - s))) = _
    unfold b_X4_valueOfToken_7
    rw [o1, if_pos (nI_le (by omega) (by omega))]
theorem adv_V (T V V' : oa_I2) : f_X4_advance T V = f_X4_advance T V' := rfl
/-- the model has gone on, the class has not -/
def MID (t : Nat) (f : Nat → Nat) (a : Nat) (T Y : oa_I2) : Prop := ∃ T', FT T T' ∧ (((∀ V, f_X4_advance T V = some (1, T')) ∧ ∃ s e k, OKt t f T' Y s e k ∧ a ≤ s) ∨ ((∀ V, f_X4_advance T V = some (0, T')) ∧ BRt t T' Y))
theorem tokA {a : Nat} (h : TP t f T M) (ha : a ≤ t) (h4 : T 1 4 = nI a) (m4 : M 0 4 = nI a) (hb : M 0 2 = 0) (hf : T 1 1 = 0) : ∃ Y, f_X7_step M K = some Y ∧ FM M Y ∧ MID t f a T Y := by
  obtain ⟨T1, M1, p1, p2, p3, p4⟩ := tok (K := K) (V := T) h ha h4 m4 hb hf
  exact ⟨M1, p3, p2, T1, p1, p4.imp (fun q => ⟨fun V => (adv_V T V T).trans q.1, q.2⟩) (fun q => ⟨fun V => (adv_V T V T).trans q.1, q.2⟩)⟩
theorem tokM {s e k : Nat} (h : TP t f T M) (ho : OKt t f T M s e k) : ∃ Y, f_X7_step M K = some Y ∧ FM M Y ∧ MID t f e T Y := by
  obtain ⟨o1, o2, o3, o4, o5, o6, o7, o8, o9, o10, o11, o12, o13, o14⟩ := ho
  exact tokA h o11 o1 o2 o9 o8
/-- a number: the class goes to it and looks, the model has gone already, looks, and goes on -/
theorem numM {a lo hi : Nat} {lo' hi' : Int32} {Y : oa_I2} (hlo : lo' = nI lo) (hhi : hi' = nI hi) (hh : hi < 2 ^ 31) (hl : lo < 2 ^ 31) (h : TP t f T Y) (hm : MID t f a T Y) : ∃ T' Y', FS T T' ∧ FM Y Y' ∧ ((f_X4_takeNumber T V lo' hi' = some (1, T') ∧ ∃ w, lo ≤ w ∧ w ≤ hi ∧ T' 1 7 = nI w ∧ f_X7_number Y K lo' hi' = some (nI w, Y') ∧ ∃ b, a < b ∧ b ≤ t ∧ MID t f b T' Y') ∨ (f_X4_takeNumber T V lo' hi' = some (0, T') ∧ f_X7_number Y K lo' hi' = some (lo', Y') ∧ BRt t T' Y')) := by
  obtain ⟨T1, p1, p4⟩ := hm
  have hT := TP_F h p1 (FM_refl Y)
  rcases p4 with ⟨q1, s, e, k, q2, q3⟩ | ⟨q1, q2⟩
  · have q2' := q2
    obtain ⟨o1, o2, o3, o4, o5, o6, o7, o8, o9, o10, o11, o12, o13, o14⟩ := q2
    by_cases k2 : k = 2
    · subst k2
      obtain ⟨v1, v2⟩ := o14 rfl
      have hv := cl_value (V := V) hT q2'
      have hT7 : FS T1 (va_up T1 1 (upd (T1 1) 7 (vI f s (e - s)))) := ⟨fun b hb => by rw [va_up_n _ _ hb], rd1n _ _ (by omega), rd1n _ _ (by omega), rd1n _ _ (by omega)⟩
      have hok : OKt t f (va_up T1 1 (upd (T1 1) 7 (vI f s (e - s)))) Y s e 2 := ⟨by rw [rd1n _ _ (by omega)]; exact o1, o2, by rw [rd1n _ _ (by omega)]; exact o3, o4, by rw [rd1n _ _ (by omega)]; exact o5, o6, o7, by rw [rd1n _ _ (by omega)]; exact o8, o9, o10, o11, o12, o13, o14⟩
      have h7 : va_up T1 1 (upd (T1 1) 7 (vI f s (e - s))) 1 7 = vI f s (e - s) := rd1 _ _ _
      have ecl : f_X4_takeNumber T V lo' hi' = oa_let (va_up T1 1 (upd (T1 1) 7 (vI f s (e - s)))) fun T10 => (f_X6_within (T10 1 7) lo' hi').bind fun (y12 : Int32) => if y12 = 0 then ((f_X4_fail T10 V 3 (T10 1 6)).bind <| oa_u fun (y16 : Int32) (T17 : oa_I2) => if y16 = 0 then some (0, T17) else some (1, T17)) else some (1, T10) := by
        unfold f_X4_takeNumber
        rw [q1 V]
        simp only [oa_bs, oa_ut]
        rw [if_neg (show ¬ (1 : Int32) = 0 by decide), o5, if_pos (show nI 2 = 2 from rfl), hv]
        rfl
      have emd : f_X7_number Y K lo' hi' = (f_X7_in (Int32.toInt64 (vI f s (e - s))) (Int32.toInt64 lo') (Int32.toInt64 hi')).bind fun (y7 : Int32) => if y7 = 0 then ((f_X7_fails Y K 3).bind fun (Y1 : oa_I2) => b_X7_number_47 K lo' hi' Y1) else b_X7_number_47 K lo' hi' Y := by
        unfold f_X7_number b_X7_number_20
        rw [if_pos o9, o6, if_pos (show nI 2 = 2 from rfl), if_pos o9, v2]
      rw [f_in] at emd
      simp only [oa_lt] at ecl
      rw [h7, f_within] at ecl
      simp only [oa_bs] at ecl emd
      generalize va_up T1 1 (upd (T1 1) 7 (vI f s (e - s))) = T2 at hT7 hok h7 ecl
      cases hw : oa_wi (vI f s (e - s)) lo' hi'
      · obtain ⟨T3, M3, r1, r2, r3, r4, r5⟩ := both_fail (K := K) (V := V) (c := 3) (x := 3) hok (by omega) (by omega) rfl
        rw [hw, if_pos (show oa_bi false = 0 from rfl), r1] at ecl
        rw [hw, if_pos (show oa_bi false = 0 from rfl), r2] at emd
        refine ⟨T3, M3, FS_trans (FS_trans (FS_of p1) hT7) (FS_of r3), r4, Or.inr ⟨ecl, ?_, r5⟩⟩
        rw [emd]
        simp only [oa_bs]
        unfold b_X7_number_47 b_X7_number_62
        rw [if_neg (br_ne r5), br_step r5]
        rfl
      · rw [hw, if_neg (show ¬ oa_bi true = 0 by decide)] at ecl emd
        obtain ⟨w, w1, w2, w3⟩ := oa_wi_t hh (by rw [← hlo, ← hhi]; exact hw) hl
        obtain ⟨Z, z1, z2, z3⟩ := tokM (K := K) (TP_S hT hT7 (FM_refl Y)) hok
        refine ⟨T2, Z, FS_trans (FS_of p1) hT7, z2, Or.inl ⟨ecl, w, w1, w2, by rw [h7, w3], ?_, e, by omega, o11, z3⟩⟩
        rw [emd]
        unfold b_X7_number_47 b_X7_number_62
        rw [if_pos o9, v2, w3, z1]
        rfl
    · obtain ⟨T3, M3, r1, r2, r3, r4, r5⟩ := both_mis (K := K) (V := V) q2'
      have n2 : ¬ nI k = 2 := nI_neq (b := 2) k2 (by omega) (by omega)
      refine ⟨T3, M3, FS_trans (FS_of p1) (FS_of r3), r4, Or.inr ⟨?_, ?_, r5⟩⟩
      · unfold f_X4_takeNumber
        rw [q1 V]
        simp only [oa_bs, oa_ut]
        rw [if_neg (show ¬ (1 : Int32) = 0 by decide), o5, if_neg n2, r1]
        rfl
      · unfold f_X7_number
        rw [if_pos o9, o6, if_neg n2, r2]
        simp only [oa_bs]
        unfold b_X7_number_20 b_X7_number_47 b_X7_number_62
        rw [if_neg (br_ne r5), if_neg (br_ne r5), br_step r5]
        rfl
  · refine ⟨T1, Y, FS_of p1, FM_refl Y, Or.inr ⟨?_, br_number q2, q2⟩⟩
    unfold f_X4_takeNumber
    rw [q1 V]
    rfl
end NU
