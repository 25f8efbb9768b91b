/-! more rules: loops, copies, fills, strings, Math -/
def oa_u {α β γ : Type} (f : α → β → γ) (p : α × β) : γ := f p.1 p.2
theorem oa_bind2 {α β γ : Type} {x : Option (α × β)} {f : α → β → Option γ} {r : γ} (h : x.bind (oa_u f) = some r) : ∃ y z, x = some (y, z) ∧ f y z = some r := by
  obtain ⟨⟨y, z⟩, h1, h2⟩ := oa_bind h
  exact ⟨y, z, h1, h2⟩
theorem oa_bind3 {α β γ δ : Type} {x : Option (α × β × γ)} {f : α → β → γ → Option δ} {r : δ} (h : x.bind (oa_u fun y => oa_u (f y)) = some r) : ∃ y z w, x = some (y, z, w) ∧ f y z w = some r := by
  obtain ⟨⟨y, z, w⟩, h1, h2⟩ := oa_bind h
  exact ⟨y, z, w, h1, h2⟩
def oa_fix {α β : Type} (F : (α → Option β) → α → Option β) : Nat → α → Option β
  | 0, _ => none
  | n + 1, a => F (oa_fix F n) a
def oa_zc (x : Int32) : Option Int32 := if x = 0 ∨ x = 1 then some x else none
theorem oa_zc_some {x z : Int32} (h : oa_zc x = some z) : z = x ∧ narrow .boolean (.int z) = .int z := by
  unfold oa_zc at h
  split at h
  · rename_i h1
    have hz := (Option.some.inj h).symm
    refine ⟨hz, ?_⟩
    rw [hz]
    rcases h1 with rfl | rfl <;> rfl
  · cases h
def oa_max (x y : Int32) : Int32 := if x < y then y else x
def oa_fill {α : Type} (n : Nat) (v : α) (f : Nat → α) : Nat → α := fun k => if k < n then v else f k
section OA
variable {G : oa_G} {cc : ByteArray} {nL : Nat} {own : String} {ret : Option FieldType} {rm : Room} {O : oa_O} {A : Nat → Prop} {Q : State → Prop} {cs : Nat × Nat} {L : List (Nat × Value)} {rest : List Value} {ws : va_W} {pc : Nat}
theorem ww_alen {a t0 : Nat} {x : vp_A} {v : Int32} {ty : FieldType} (C : oa_C G cc nL own ret rm O A) (q0 : Nat) (ha : ws[q0]? = some (a, .inl (oa_id O t0, x))) (ht : (oa_tys O.2.2.2.2)[t0]? = some (oa_id O t0, ty)) (hv : nI x.1 = v) (hd : decode cc pc = .ok (.arraylength, 1)) (kk : ww G nL O A Q cs (pc + 1) L (.int v :: rest) ws) : ww G nL O A Q cs pc L (.ref a :: rest) ws := by
  obtain ⟨p, l, e, R, s, m, args, below, meth, c⟩ := G
  obtain ⟨hR, hx, hb, hml, hown, hts, hr, hlk, hK, hA, hE⟩ := C
  intro H locs ls hP hD hS hl
  exact va_alen hx hb hK hP q0 t0 ha ht hv hd (kk H locs ls hP hD hS hl)
theorem ww_mmin {index n : Nat} {x y : Int32} (C : oa_C G cc nL own ret rm O A) (hlink : Cond.methodLink own index yJ9_min_7cf53 ∈ oa_gw) (hst : Cond.static yJ9_min_7cf53 ∈ oa_gw) (hY : oa_Y yJ9_min_7cf53 cJ9_min_7cf53 2 (some .int) n) (hf : 1 ≤ rm.frames) (hl0 : (rest.map fun v => v.category).sum + 13 ≤ rm.locals) (hcs : cs.1 ≤ rm.cells ∧ cs.2 ≤ rm.slots) (hd : decode cc pc = .ok (.invokestatic index, 3)) (kk : ww G nL O A Q cs (pc + 3) L (.int (if y < x then y else x) :: rest) ws) : ww G nL O A Q cs pc L (.int y :: .int x :: rest) ws := by
  obtain ⟨p, l, e, R, s, m, args, below, meth, c⟩ := G
  obtain ⟨hR, hx, hb, hml, hown, hts, hr, hlk, hK, hA, hE⟩ := C
  subst hR
  intro H locs ls hP hD hS hl
  exact va_mmin hx hb (hml.trans hl.1.symm) hown (hts _ hlink) (hts _ hst) (hts _ hY.2.1) (hts _ hY.1) hf hl0 hcs.1 hcs.2 hd (kk H locs ls hP hD hS hl)
theorem ww_mmax {index n : Nat} {x y : Int32} (C : oa_C G cc nL own ret rm O A) (hlink : Cond.methodLink own index yJ9_max_7cf53 ∈ oa_gw) (hst : Cond.static yJ9_max_7cf53 ∈ oa_gw) (hY : oa_Y yJ9_max_7cf53 cJ9_max_7cf53 2 (some .int) n) (hf : 1 ≤ rm.frames) (hl0 : (rest.map fun v => v.category).sum + 13 ≤ rm.locals) (hcs : cs.1 ≤ rm.cells ∧ cs.2 ≤ rm.slots) (hd : decode cc pc = .ok (.invokestatic index, 3)) (kk : ww G nL O A Q cs (pc + 3) L (.int (oa_max x y) :: rest) ws) : ww G nL O A Q cs pc L (.int y :: .int x :: rest) ws := by
  obtain ⟨p, l, e, R, s, m, args, below, meth, c⟩ := G
  obtain ⟨hR, hx, hb, hml, hown, hts, hr, hlk, hK, hA, hE⟩ := C
  subst hR
  intro H locs ls hP hD hS hl
  exact va_mmax hx hb (hml.trans hl.1.symm) hown (hts _ hlink) (hts _ hst) (hts _ hY.2.1) (hts _ hY.1) hf hl0 hcs.1 hcs.2 hd (kk H locs ls hP hD hS hl)
theorem ww_mabs {index n : Nat} {x : Int64} (C : oa_C G cc nL own ret rm O A) (hlink : Cond.methodLink own index yJ9_abs_067f4 ∈ oa_gw) (hst : Cond.static yJ9_abs_067f4 ∈ oa_gw) (hY : oa_Y yJ9_abs_067f4 cJ9_abs_067f4 2 (some .long) n) (hf : 1 ≤ rm.frames) (hl0 : (rest.map fun v => v.category).sum + 13 ≤ rm.locals) (hcs : cs.1 ≤ rm.cells ∧ cs.2 ≤ rm.slots) (hd : decode cc pc = .ok (.invokestatic index, 3)) (kk : ww G nL O A Q cs (pc + 3) L (.long (if 0 < x then x else -x) :: rest) ws) : ww G nL O A Q cs pc L (.long x :: rest) ws := by
  obtain ⟨p, l, e, R, s, m, args, below, meth, c⟩ := G
  obtain ⟨hR, hx, hb, hml, hown, hts, hr, hlk, hK, hA, hE⟩ := C
  subst hR
  intro H locs ls hP hD hS hl
  exact va_mabs_long hx hb (hml.trans hl.1.symm) hown (hts _ hlink) (hts _ hst) (hts _ hY.2.1) (hts _ hY.1) hf hl0 hcs.1 hcs.2 hd (kk H locs ls hP hD hS hl)
theorem oa_acS : Cond.static arraycopyName ∈ oa_gw := oa_at 101 (by decide +kernel) rfl
theorem oa_acN : Cond.native arraycopyName ∈ oa_gw := oa_at 102 (by decide +kernel) rfl
theorem oa_acI : Cond.initialized "java/lang/System" ∈ oa_gw := oa_at 65 (by decide +kernel) rfl
theorem ww_acp {St : Type} {X X1 : St} {index a0 a n0 n1 : Nat} {f g : Nat → Int32} {v z z2 : Int32} (C : oa_C G cc nL own ret rm O A) (hlink : Cond.methodLink own index arraycopyName ∈ oa_gw) (w : St → va_W) (q0 q1 : Nat) (ha0 : ws[q0]? = some (a0, .inl (oa_id O 0, n0, .inl f))) (ha1 : ws[q1]? = some (a, .inl (oa_id O 0, n1, .inl g))) (n : Nat) (hv : v = nI n) (hz : z = 0 ∧ z2 = 0) (hn : n < 2 ^ 31 ∧ n ≤ n0 ∧ n ≤ n1) (hX : X1 = X) (hw : ws.set q1 (a, .inl (oa_id O 0, n1, .inl (va_cpy f g 0 0 n))) = w X) (hf : 1 ≤ rm.frames) (hlo : (rest.map fun v => v.category).sum + 18 ≤ rm.locals) (hd : decode cc pc = .ok (.invokestatic index, 3)) (kk : ww G nL O A Q cs (pc + 3) L rest (w X1)) : ww G nL O A Q cs pc L (.int v :: .int z2 :: .ref a :: .int z :: .ref a0 :: rest) ws := by
  obtain ⟨p, l, e, R, s, m, args, below, meth, c⟩ := G
  obtain ⟨hR, hx, hb, hml, hown, hts, hr, hlk, hK, hA, hE⟩ := C
  obtain ⟨rfl, rfl⟩ := hz
  subst hR hv hX
  intro H locs ls hP hD hS hl
  have e0 : (0 : Int32).toNatClampNeg = 0 := rfl
  have e1 := nI_clamp hn.1
  refine va_copyi hx hb (hml.trans hl.1.symm) hown (hts _ hlink) (hts _ oa_acN) (hts _ oa_acS) (hts _ oa_acI) hK hP hD hS q0 q1 0 0 ha0 ha1 rfl rfl rfl (by decide) (by decide) (nI_pos hn.1) (by rw [e0, e1]; omega) (by rw [e0, e1]; omega) (fun _ _ => rfl) hf (by show _ + (7 + 11) ≤ _; omega) hd (fun H1 locs1 hP1 hD1 hS1 => ?_)
  rw [e0, e1, hw] at hP1 hD1
  exact kk H1 locs1 ls hP1 hD1 hS1 hl
/-- out of a static row -/
theorem ww_acpt {St : Type} {X X1 : St} {index k a n1 : Nat} {g : Nat → Int32} {v z z2 : Int32} (C : oa_C G cc nL own ret rm O A) (hlink : Cond.methodLink own index arraycopyName ∈ oa_gw) (w : St → va_W) (q1 : Nat) (hk : k < 5) (ha1 : ws[q1]? = some (a, .inl (oa_id O 0, n1, .inl g))) (n : Nat) (hv : v = nI n) (hz : z = 0 ∧ z2 = 0) (hn : n < 2 ^ 31 ∧ n ≤ oa_tln k ∧ n ≤ n1) (hX : X1 = X) (hw : ws.set q1 (a, .inl (oa_id O 0, n1, .inl (va_cpy (oa_tbv k) g 0 0 n))) = w X) (hf : 1 ≤ rm.frames) (hlo : (rest.map fun v => v.category).sum + 18 ≤ rm.locals) (hd : decode cc pc = .ok (.invokestatic index, 3)) (kk : ww G nL O A Q cs (pc + 3) L rest (w X1)) : ww G nL O A Q cs pc L (.int v :: .int z2 :: .ref a :: .int z :: .ref (O.1 k) :: rest) ws := by
  obtain ⟨p, l, e, R, s, m, args, below, meth, c⟩ := G
  obtain ⟨hR, hx, hb, hml, hown, hts, hr, hlk, hK, hA, hE⟩ := C
  obtain ⟨rfl, rfl⟩ := hz
  subst hR hv hX
  intro H locs ls hP hD hS hl
  have e0 : (0 : Int32).toNatClampNeg = 0 := rfl
  have en := nI_clamp hn.1
  have eI := nI_toInt hn.1
  intro T hT X
  obtain ⟨src, s1, ⟨s2, k0, s3, cm0, s4⟩, s5, s6, -, s7, s8⟩ := (hE.1 k hk).2.kept hS.2.1
  have hdst : H[a]? = some (vp_cell (oa_id O 0) (n1, .inl g)) := hP q1 _ ha1
  obtain ⟨-, k1, d1, cm1, d2⟩ := (hK.2 0 _ rfl).1 n1 (fun j => .int (g j))
  have cpy : copied src (vp_cell (oa_id O 0) (n1, .inl g)) 0 0 (nI n) = vp_cell (oa_id O 0) (n1, .inl (va_cpy (oa_tbv k) g (0 : Int32).toNatClampNeg (0 : Int32).toNatClampNeg (nI n).toNatClampNeg)) := va_copiedX (fun z => .int z) src (oa_id O 0) (oa_tbv k) g s7 (by rw [e0, en]; omega)
  obtain ⟨vm', X', stp⟩ := X.arraycopy hx hown (hts _ hlink) (hts _ oa_acN) (hts _ oa_acS) (hts _ oa_acI) (src := O.1 k) (dst := a) (cs := src) (cd := vp_cell (oa_id O 0) (n1, .inl g)) (srcPos := 0) (destPos := 0) (n := nI n) (by rw [hT]; exact s1) (by rw [hT]; exact hdst) s2 (fun _ h => by cases h) s5 (fun h => by cases h) s3 d1 s4 d2 (by simp [refKind]) (by decide) (by decide) (nI_pos hn.1)
    (by rw [eI]; show ¬ (0 : Int) + (n : Int) > (src.slots.size : Int); omega)
    (by rw [eI]; show ¬ (0 : Int) + (n : Int) > ((arrV (oa_id O 0) n1 (fun j => .int (g j))).slots.size : Int); rw [arrV_size]; omega)
    (fun vm₁ _ i hi => by
      have q : src.slots.getD ((0 : Int32).toNatClampNeg + i) .null = .int (oa_tbv k ((0 : Int32).toNatClampNeg + i)) := by
        rw [Array.getD_eq_getD_getElem?, s7 _ (by rw [e0]; rw [en] at hi; omega)]
        rfl
      rw [q]
      exact ⟨rfl, trivial⟩)
    (g := F0 m pc ls (.int (nI n) :: .int 0 :: .ref a :: .int 0 :: .ref (O.1 k) :: rest)) rfl (hl.1.trans hml.symm) (rest := rest) rfl (by rw [hb]; exact hd) hf (by show 2 * 0 + _ + (7 + 11) ≤ _; omega)
  rw [cpy, e0, en] at X' stp
  have hlt : a < H.size := (Array.getElem?_eq_some_iff.mp hdst).1
  have oq : ∀ q : Nat, q ≠ a → (H.setIfInBounds a (vp_cell (oa_id O 0) (n1, .inl (va_cpy (oa_tbv k) g 0 0 n))))[q]? = H[q]? := fun q hq => by simp [Array.getElem?_setIfInBounds, Ne.symm hq]
  have hP1 := hP.set hD ha1 (e := .inl (oa_id O 0, n1, .inl (va_cpy (oa_tbv k) g 0 0 n))) (show (H.setIfInBounds a (vp_cell (oa_id O 0) (n1, .inl (va_cpy (oa_tbv k) g 0 0 n))))[a]? = some _ by simp [Array.getElem?_setIfInBounds, hlt]) oq
  have hD1 := hD.set (e := .inl (oa_id O 0, n1, .inl (va_cpy (oa_tbv k) g 0 0 n))) ha1
  rw [hw] at hP1 hD1
  obtain ⟨t, a1, b1⟩ := kk _ _ ls hP1 hD1 ⟨by simp; exact hS.1, fun q g1 g2 => by
      rw [oq q (fun z => g2 (by rw [z]; exact hD.2 q1 _ ha1))]
      exact hS.2.1 q g1 g2, fun q hq => by
      rcases List.mem_append.mp hq with h | h
      · exact hS.2.2 q h
      · obtain ⟨z, -, hz⟩ := List.mem_map.mp h
        rw [← hz]
        exact hD.2 q1 _ ha1⟩ hl _ (by rw [← hT]; rfl) X'
  exact ⟨t, stp t a1, b1⟩
end OA
