/-! names -/
/-- name j stands from s to e -/
def nm (f : Nat → Nat) (s e j : Nat) : Prop := oa_len.getD j 0 = e - s ∧ ∀ i, i < e - s → nI (f (s + i)) = (oa_byt.getD j []).getD i 0
theorem oa_schN {j i : Nat} (hj : j < 13) (h : i < oa_len.getD j 0) : oa_sch j (nI i) = some ((oa_byt.getD j []).getD i 0) := by
  have hl := (oa_bok j hj).1
  have hl8 : ∀ j, j < 13 → oa_len.getD j 0 ≤ 6 := by decide
  have h8 := hl8 j hj
  have hi : ∀ i, i < 6 → (nI i).toNatClampNeg = i ∧ ¬ (nI i) < 0 := by decide
  obtain ⟨e1, e2⟩ := hi i (by omega)
  unfold oa_sch
  rw [e1, if_neg (fun c => c.elim e2 (fun c => by omega))]
theorem oa_ct_s : ∀ j, j < 13 → oa_ct (j + 1) = oa_ct j + oa_len.getD j 0 ∧ oa_ct (j + 1) ≤ 53 ∧ oa_len.getD j 0 ≤ 6 := by decide
theorem nm_one : ∀ j, j < 13 → ∀ j', j' < 13 → j ≠ j' → oa_len.getD j 0 = oa_len.getD j' 0 → ∃ i, i < 6 ∧ i < oa_len.getD j 0 ∧ (oa_byt.getD j []).getD i 0 ≠ (oa_byt.getD j' []).getD i 0 := by decide +kernel
section NM
variable {T M V : oa_I2} {K : oa_J2} {t : Nat} {f : Nat → Nat}
theorem nm_u {s e j j' : Nat} (hj : j < 13) (hj' : j' < 13) (h : nm f s e j) (h' : nm f s e j') : j = j' := by
  apply Decidable.byContradiction
  intro hn
  obtain ⟨i, _, i1, i2⟩ := nm_one j hj j' hj' hn (by rw [h.1, h'.1])
  exact i2 (by rw [← h.2 i (by rw [← h.1]; exact i1), ← h'.2 i (by rw [← h.1]; exact i1)])
theorem cl_isName1 {s e k j : Nat} (h : TP t f T M) (ho : OKt t f T M s e k) (hj : j < 13) (hk : k = 1) (hn : nm f s e j) : f_X4_isName j T V = some 1 := by
  obtain ⟨o1, o2, o3, o4, o5, o6, o7, o8, o9, o10, o11, o12, o13, o14⟩ := ho
  have ht := h.1
  have hsub : nI e - nI s = nI (e - s) := pk_sub (by omega)
  unfold f_X4_isName
  rw [o5, hk, if_pos (show nI 1 = 1 from rfl), o1, o3, hsub, hn.1, if_pos rfl]
  simp only [oa_lt]
  unfold l_X4_isName_31
  refine oa_for (fun i => nI (s + i)) (e - s) rfl ?_ ?_ oa_fu (by rw [oa_fu_eq]; omega)
  · intro i hi kk
    have hd := h.2.2.2 (s + i) (by omega)
    show b_X4_isName_31 j T V (fun x => kk x) (nI (s + i)) = _
    unfold b_X4_isName_31
    rw [o1, if_neg (nI_ge (by omega) (by omega)), oa_rd_nI (by omega) (by omega), hd.2.1]
    simp only [oa_bs]
    rw [o3, pk_sub (by omega), Nat.add_sub_cancel_left, oa_schN hj (by rw [hn.1]; exact hi)]
    simp only [oa_bs]
    rw [if_pos (hn.2 i hi), nI_1, Nat.add_assoc]
  · intro kk
    show b_X4_isName_31 j T V (fun x => kk x) (nI (s + (e - s))) = _
    unfold b_X4_isName_31
    rw [o1, if_pos (nI_le (by omega) (by omega))]
theorem cl_isName0 {s e k j : Nat} (h : TP t f T M) (ho : OKt t f T M s e k) (hj : j < 13) (hn : k = 1 → ¬ nm f s e j) : f_X4_isName j T V = some 0 := by
  obtain ⟨o1, o2, o3, o4, o5, o6, o7, o8, o9, o10, o11, o12, o13, o14⟩ := ho
  have ht := h.1
  have hsub : nI e - nI s = nI (e - s) := pk_sub (by omega)
  have h8 := (oa_ct_s j hj).2.2
  unfold f_X4_isName
  rw [o5]
  by_cases hk : k = 1
  · rw [hk, if_pos (show nI 1 = 1 from rfl), o1, o3, hsub]
    by_cases hl : oa_len.getD j 0 = e - s
    · rw [hl, if_pos rfl]
      simp only [oa_lt]
      unfold l_X4_isName_31
      refine oa_forR (fun o => o = some 0) (fun i x => x = nI (s + i) ∧ ∀ i', i' < i → nI (f (s + i')) = (oa_byt.getD j []).getD i' 0) (e - s) ⟨rfl, fun i' h => absurd h (Nat.not_lt_zero _)⟩ ?_ ?_ oa_fu (by rw [oa_fu_eq]; omega)
      · rintro i hi x ⟨rfl, hx⟩
        have hd := h.2.2.2 (s + i) (by omega)
        have hb : ∀ kk : Int32 → Option Int32, b_X4_isName_31 j T V (fun x => kk x) (nI (s + i)) = if nI (f (s + i)) = (oa_byt.getD j []).getD i 0 then kk (nI (s + (i + 1))) else some 0 := by
          intro kk
          unfold b_X4_isName_31
          rw [o1, if_neg (nI_ge (by omega) (by omega)), oa_rd_nI (by omega) (by omega), hd.2.1]
          simp only [oa_bs]
          rw [o3, pk_sub (by omega), Nat.add_sub_cancel_left, oa_schN hj (by rw [hl]; exact hi)]
          simp only [oa_bs]
          rw [nI_1, Nat.add_assoc]
        by_cases c : nI (f (s + i)) = (oa_byt.getD j []).getD i 0
        · left
          refine ⟨nI (s + (i + 1)), ⟨rfl, fun i' hi' => ?_⟩, fun kk => (hb kk).trans (if_pos c)⟩
          by_cases e' : i' = i
          · rw [e']; exact c
          · exact hx i' (by omega)
        · exact Or.inr ⟨some 0, rfl, fun kk => (hb kk).trans (if_neg c)⟩
      · rintro x ⟨rfl, hx⟩
        exact absurd ⟨hl, hx⟩ (hn hk)
    · rw [if_neg (nI_neq hl (by omega) (by omega))]
  · rw [if_neg (show ¬ nI k = 1 from nI_neq (b := 1) hk (by omega) (by omega))]
/-- the model's look at one name -/
theorem md_name51 {s e k j : Nat} {x2 : Int32} {k2 : Int32 → Option Int32} (h : TP t f T M) (ho : HM t M s e k) (hc : RC M) (hj : j < 13) (h1 : nm f s e j → x2 = 1) (h2 : ¬ nm f s e j → x2 = 0 ∨ (x2 = 1 ∧ oa_len.getD j 0 = e - s)) : (nm f s e j → l_X7_nameHere_51 M K (nI j) k2 oa_fu x2 0 = some (nI j)) ∧ (¬ nm f s e j → l_X7_nameHere_51 M K (nI j) k2 oa_fu x2 0 = k2 (nI (j + 1))) := by
  obtain ⟨o2, o4, o6, o7, o10, o11⟩ := ho
  have ht := h.1
  have hsub : nI e - nI s = nI (e - s) := pk_sub (by omega)
  obtain ⟨c1, c2, c3⟩ := oa_ct_s j hj
  have hbody : ∀ i, i < e - s → oa_len.getD j 0 = e - s → ∀ kk : Int32 → Int32 → Option Int32, b_X7_nameHere_51 M K (nI j) k2 kk 1 (nI i) = if nI (f (s + i)) = (oa_byt.getD j []).getD i 0 then kk 1 (nI (i + 1)) else kk 0 (nI (i + 1)) := by
    intro i hi hl kk
    unfold b_X7_nameHere_51
    rw [if_neg (show ¬ (1 : Int32) = 0 by decide), o2, o4, hsub, if_neg (nI_ge (by omega) (by omega)), nI_add, md_byteAt h (by omega), if_pos (by omega)]
    simp only [oa_bs]
    rw [oa_rd_nI (by omega) (by omega), hc.1 j (by omega)]
    simp only [oa_bs]
    rw [nI_add, oa_rd_nI (by omega) (by omega), hc.2 j hj i (by omega)]
    simp only [oa_bs]
    rw [nI_1]
  have hend0 : ∀ (x3 : Int32) (kk : Int32 → Int32 → Option Int32), b_X7_nameHere_51 M K (nI j) k2 kk 0 x3 = k2 (nI (j + 1)) := by
    intro x3 kk
    unfold b_X7_nameHere_51 b_X7_nameHere_106
    rw [if_pos rfl, if_pos rfl, nI_1]
  have hend1 : ∀ kk : Int32 → Int32 → Option Int32, b_X7_nameHere_51 M K (nI j) k2 kk 1 (nI (e - s)) = some (nI j) := by
    intro kk
    unfold b_X7_nameHere_51 b_X7_nameHere_106
    rw [if_neg (show ¬ (1 : Int32) = 0 by decide), o2, o4, hsub, if_pos (nI_le (Nat.le_refl _) (by omega)), if_neg (show ¬ (1 : Int32) = 0 by decide)]
  constructor
  · intro hn
    rw [h1 hn]
    unfold l_X7_nameHere_51
    refine oa_for (fun i => (1, nI i)) (e - s) rfl ?_ ?_ oa_fu (by rw [oa_fu_eq]; omega)
    · intro i hi kk
      show b_X7_nameHere_51 M K (nI j) k2 (fun a b => kk (a, b)) 1 (nI i) = _
      rw [hbody i hi hn.1, if_pos (hn.2 i hi)]
    · intro kk
      show b_X7_nameHere_51 M K (nI j) k2 (fun a b => kk (a, b)) 1 (nI (e - s)) = _
      rw [hend1]
  · intro hn
    have hx := h2 hn
    unfold l_X7_nameHere_51
    refine oa_forR (fun o => o = k2 (nI (j + 1))) (fun i x => x.2 = nI i ∧ (x.1 = 0 ∨ (x.1 = 1 ∧ oa_len.getD j 0 = e - s ∧ ∀ i', i' < i → nI (f (s + i')) = (oa_byt.getD j []).getD i' 0))) (e - s) ⟨rfl, hx.imp id (fun c => ⟨c.1, c.2, fun i' h => absurd h (Nat.not_lt_zero _)⟩)⟩ ?_ ?_ oa_fu (by rw [oa_fu_eq]; omega)
    · rintro i hi ⟨x, y⟩ ⟨hy, hq⟩
      have hy : y = nI i := hy
      subst hy
      rcases hq with hq | ⟨hq, hl, hq2⟩
      · have hq : x = 0 := hq
        subst hq
        exact Or.inr ⟨_, rfl, fun kk => hend0 _ (fun a b => kk (a, b))⟩
      · have hq : x = 1 := hq
        subst hq
        left
        by_cases c : nI (f (s + i)) = (oa_byt.getD j []).getD i 0
        · refine ⟨(1, nI (i + 1)), ⟨rfl, Or.inr ⟨rfl, hl, fun i' hi' => ?_⟩⟩, fun kk => (hbody i hi hl (fun a b => kk (a, b))).trans (if_pos c)⟩
          by_cases e' : i' = i
          · rw [e']; exact c
          · exact hq2 i' (by omega)
        · exact ⟨(0, nI (i + 1)), ⟨rfl, Or.inl rfl⟩, fun kk => (hbody i hi hl (fun a b => kk (a, b))).trans (if_neg c)⟩
    · rintro ⟨x, y⟩ ⟨hy, hq⟩
      rcases hq with hq | ⟨hq, hl, hq2⟩
      · have hq : x = 0 := hq
        subst hq
        exact ⟨_, rfl, fun kk => hend0 _ (fun a b => kk (a, b))⟩
      · exact absurd ⟨hl, hq2⟩ hn
theorem md_name2 {s e k j : Nat} {kk : Int32 → Option Int32} (h : TP t f T M) (ho : HM t M s e k) (hc : RC M) (hk : k = 1) (hj : j < 13) : (nm f s e j → b_X7_nameHere_2 M K kk (nI j) = some (nI j)) ∧ (¬ nm f s e j → b_X7_nameHere_2 M K kk (nI j) = kk (nI (j + 1))) := by
  have ho' := ho
  obtain ⟨o2, o4, o6, o7, o10, o11⟩ := ho
  have ht := h.1
  have hsub : nI e - nI s = nI (e - s) := pk_sub (by omega)
  obtain ⟨c1, c2, c3⟩ := oa_ct_s j hj
  have hct : ∀ i, i < 14 → oa_ct i ≤ 53 := by decide
  have e1 : b_X7_nameHere_2 M K kk (nI j) = if e - s = oa_len.getD j 0 then l_X7_nameHere_51 M K (nI j) kk oa_fu 1 0 else l_X7_nameHere_51 M K (nI j) kk oa_fu 0 0 := by
    unfold b_X7_nameHere_2
    rw [if_neg (show ¬ (13 : Int32) ≤ nI j from nI_ge (b := 13) hj (by omega)), o6, hk, if_pos (show nI 1 = 1 from rfl), nI_1, oa_rd_nI (by omega) (by omega), oa_rd_nI (by omega) (by omega), hc.1 _ (by omega), hc.1 _ (by omega)]
    simp only [oa_bs]
    rw [o2, o4, hsub, c1, pk_sub (by omega), Nat.add_sub_cancel_left]
    by_cases c : e - s = oa_len.getD j 0
    · rw [if_pos (by rw [c]), if_pos c]
    · rw [if_neg (nI_neq c (by omega) (by omega)), if_neg c]
  rw [e1]
  by_cases c : e - s = oa_len.getD j 0
  · rw [if_pos c]
    exact md_name51 h ho' hc hj (fun _ => rfl) (fun _ => Or.inr ⟨rfl, c.symm⟩)
  · rw [if_neg c]
    exact md_name51 h ho' hc hj (fun q => absurd q.1.symm c) (fun _ => Or.inl rfl)
/-- what stands here -/
def NH (f : Nat → Nat) (s e k : Nat) (x : Int32) : Prop := (∃ j, j < 13 ∧ x = nI j ∧ k = 1 ∧ nm f s e j ∧ ∀ j', j' < 13 → j' ≠ j → ¬ nm f s e j') ∨ (x = oNO ∧ (k = 1 → ∀ j, j < 13 → ¬ nm f s e j))
theorem md_nameHere {s e k : Nat} (h : TP t f T M) (ho : HM t M s e k) (hc : RC M) : ∃ x, f_X7_nameHere M K = some x ∧ NH f s e k x := by
  have hk3 := ho.2.2.2.1
  unfold f_X7_nameHere l_X7_nameHere_2
  by_cases hk : k = 1
  · refine oa_forK (fun o => ∃ x, o = some x ∧ NH f s e k x) (fun i x => x = nI i ∧ ∀ i', i' < i → ¬ nm f s e i') 13 ⟨rfl, fun i' h => absurd h (Nat.not_lt_zero _)⟩ ?_ ?_ oa_fu (by rw [oa_fu_eq]; omega)
    · rintro i hi x ⟨rfl, hx⟩ kk
      show (∃ s', _ ∧ b_X7_nameHere_2 M K (fun x => kk x) (nI i) = _) ∨ (∃ x, b_X7_nameHere_2 M K (fun x => kk x) (nI i) = _ ∧ _)
      obtain ⟨a1, a2⟩ := md_name2 (K := K) (kk := fun x => kk x) h ho hc hk hi
      by_cases c : nm f s e i
      · exact Or.inr ⟨_, a1 c, Or.inl ⟨i, hi, rfl, hk, c, fun j' hj' hn c' => hn (nm_u hj' hi c' c)⟩⟩
      · refine Or.inl ⟨_, ⟨rfl, fun i' hi' => ?_⟩, a2 c⟩
        by_cases e' : i' = i
        · rw [e']; exact c
        · exact hx i' (by omega)
    · rintro x ⟨rfl, hx⟩ kk
      refine ⟨oNO, ?_, Or.inr ⟨rfl, fun _ => hx⟩⟩
      show b_X7_nameHere_2 M K (fun x => kk x) (nI 13) = _
      unfold b_X7_nameHere_2
      rw [if_pos (show (13 : Int32) ≤ nI 13 by decide)]
      rfl
  · refine ⟨oNO, ?_, Or.inr ⟨rfl, fun c => absurd c hk⟩⟩
    refine oa_for (fun _ => (0 : Int32)) 0 rfl (fun i hi => absurd hi (Nat.not_lt_zero i)) (fun kk => ?_) oa_fu (by rw [oa_fu_eq]; omega)
    show b_X7_nameHere_2 M K (fun x => kk x) 0 = _
    unfold b_X7_nameHere_2
    rw [if_neg (show ¬ (13 : Int32) ≤ 0 by decide), ho.2.2.1, if_neg (show ¬ nI k = 1 from nI_neq (b := 1) hk (by omega) (by omega))]
    rfl
theorem cl_isNameN {s e k j : Nat} {x : Int32} (h : TP t f T M) (ho : OKt t f T M s e k) (hj : j < 13) (hx : NH f s e k x) : f_X4_isName j T V = some (oa_bi (decide (x = nI j))) := by
  rcases hx with ⟨i, hi, rfl, hk, hn, hu⟩ | ⟨rfl, hu⟩
  · by_cases c : j = i
    · rw [c, decide_eq_true rfl]
      exact cl_isName1 h ho hi hk hn
    · rw [decide_eq_false (nI_neq (fun q => c q.symm) (by omega) (by omega))]
      exact cl_isName0 h ho hj (fun _ => hu j hj c)
  · rw [decide_eq_false (fun q => oa_no (show j < 2 ^ 31 by omega) q.symm)]
    exact cl_isName0 h ho hj (fun q => hu q j hj)
end NM
