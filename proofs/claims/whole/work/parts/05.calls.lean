/-! fields, arrays, calls, ends over the layer ww -/
def oa_F (own : String) (index ci k : Nat) (b : Bool) (ty : FieldType) : Prop :=
  ∃ (Cn : String) (T : u_T) (N : Nat) (ty0 : Nat → FieldType), vwCl[ci]? = some (Cn, T, N) ∧ k < N ∧ (∀ w ∈ u_ws Cn T N, w ∈ oa_gw) ∧ Cond.fieldLink own index (T k).1 (T k).2.1 (T k).2.2.1 ∈ oa_gw ∧ (∀ j, j < N → parseFieldDescriptor (T j).2.2.1 = some (ty0 j)) ∧ (∀ a, a < N → ∀ b, b < N → a ≠ b → (T a).2.1 ≠ (T b).2.1) ∧ (T k).2.2.2 = b ∧ ty0 k = ty
section OA
variable {G : oa_G} {cc : ByteArray} {nL : Nat} {own : String} {ret : Option FieldType} {rm : Room} {O : oa_O} {A : Nat → Prop} {Q : State → Prop} {cs : Nat × Nat} {L : List (Nat × Value)} {rest : List Value} {ws : va_W} {pc : Nat}
theorem ww_get {index ci k : Nat} {b : Bool} {ty : FieldType} {a : Nat} {fs : List Value} {v : Value} (C : oa_C G cc nL own ret rm O A) (F : oa_F own index ci k b ty) (q0 : Nat) (he : ws[q0]? = some (a, .inr (ci, fs))) (hv : fs[k]? = some v) (hd : decode cc pc = .ok (.getfield index, 3)) (kk : ww G nL O A Q cs (pc + 3) L (v :: rest) ws) : ww G nL O A Q cs pc L (.ref a :: rest) ws := by
  obtain ⟨p, l, e, R, s, m, args, below, meth, c⟩ := G
  obtain ⟨hR, hx, hb, hml, hown, hts, hr, hlk, hK, hA, hE⟩ := C
  obtain ⟨Cn, T, N, ty0, f1, f2, f3, f4, f5, f6, f7, f8⟩ := F
  intro H locs ls hP hD hS hl
  exact va_get hx hb hts f3 hown hK hP q0 he f1 k f2 (hts _ f4) (fun _ h => h) hv hd (kk H locs ls hP hD hS hl)
theorem ww_put {St : Type} {X X1 : St} {index ci k : Nat} {ty : FieldType} {a : Nat} {fs : List Value} {v : Value} (C : oa_C G cc nL own ret rm O A) (F : oa_F own index ci k false ty) (w : St → va_W) (q0 : Nat) (he : ws[q0]? = some (a, .inr (ci, fs))) (hn : narrow ty v = v) (hfit : fits ty v = true) (hk : k < fs.length) (hX : X1 = X) (hw : ws.set q0 (a, .inr (ci, fs.set k v)) = w X) (hd : decode cc pc = .ok (.putfield index, 3)) (kk : ww G nL O A Q cs (pc + 3) L rest (w X1)) : ww G nL O A Q cs pc L (v :: .ref a :: rest) ws := by
  obtain ⟨p, l, e, R, s, m, args, below, meth, c⟩ := G
  obtain ⟨hR, hx, hb, hml, hown, hts, hr, hlk, hK, hA, hE⟩ := C
  obtain ⟨Cn, T, N, ty0, f1, f2, f3, f4, f5, f6, f7, f8⟩ := F
  subst hX
  intro H locs ls hP hD hS hl
  exact va_put hx hb hts f3 ty0 f5 f6 hown hK hP hD hS q0 he f1 k f2 (hts _ f4) (fun _ h => h) f7 (by rw [f5 k f2, f8]) hn hfit hk hd (fun H1 locs1 hP1 hD1 hS1 => kk H1 locs1 ls (hw ▸ hP1) (hw ▸ hD1) hS1 hl)
def oa_rd (f : Nat → Int32) (n : Nat) (i : Int32) : Option Int32 := if i < 0 ∨ n ≤ i.toNatClampNeg then none else some (f i.toNatClampNeg)
def oa_wr (f : Nat → Int32) (n : Nat) (i x : Int32) : Option (Nat → Int32) := if i < 0 ∨ n ≤ i.toNatClampNeg then none else some (upd f i.toNatClampNeg x)
def oa_rdL (f : Nat → Int64) (n : Nat) (i : Int32) : Option Int64 := if i < 0 ∨ n ≤ i.toNatClampNeg then none else some (f i.toNatClampNeg)
def oa_wrL (f : Nat → Int64) (n : Nat) (i : Int32) (x : Int64) : Option (Nat → Int64) := if i < 0 ∨ n ≤ i.toNatClampNeg then none else some (vp_updL f i.toNatClampNeg x)
theorem oa_rd_some {f : Nat → Int32} {n : Nat} {i y : Int32} (h : oa_rd f n i = some y) : vp_in i n ∧ f i.toNatClampNeg = y := by
  unfold oa_rd at h
  split at h
  · cases h
  · rename_i h1; exact ⟨h1, Option.some.inj h⟩
theorem oa_wr_some {f g : Nat → Int32} {n : Nat} {i x : Int32} (h : oa_wr f n i x = some g) : vp_in i n ∧ upd f i.toNatClampNeg x = g := by
  unfold oa_wr at h
  split at h
  · cases h
  · rename_i h1; exact ⟨h1, Option.some.inj h⟩
theorem oa_rdL_some {f : Nat → Int64} {n : Nat} {i : Int32} {y : Int64} (h : oa_rdL f n i = some y) : vp_in i n ∧ f i.toNatClampNeg = y := by
  unfold oa_rdL at h
  split at h
  · cases h
  · rename_i h1; exact ⟨h1, Option.some.inj h⟩
theorem oa_wrL_some {f g : Nat → Int64} {n : Nat} {i : Int32} {x : Int64} (h : oa_wrL f n i x = some g) : vp_in i n ∧ vp_updL f i.toNatClampNeg x = g := by
  unfold oa_wrL at h
  split at h
  · cases h
  · rename_i h1; exact ⟨h1, Option.some.inj h⟩
/-- a name for a value -/
def oa_let {α β : Type} (a : α) (f : α → β) : β := f a
theorem oa_letE {α β : Type} {a : α} {f : α → β} {r : β} (h : oa_let a f = r) : ∃ x, x = a ∧ f x = r := ⟨a, rfl, h⟩
theorem oa_bind {α β : Type} {x : Option α} {f : α → Option β} {r : β} (h : x.bind f = some r) : ∃ y, x = some y ∧ f y = some r := Option.bind_eq_some_iff.mp h
theorem oa_ifp {α : Type} {c : Prop} [Decidable c] {a b r : α} (hc : c) (h : (if c then a else b) = r) : a = r := by rwa [if_pos hc] at h
theorem oa_ifn {α : Type} {c : Prop} [Decidable c] {a b r : α} (hc : ¬ c) (h : (if c then a else b) = r) : b = r := by rwa [if_neg hc] at h
theorem ww_iald {a n : Nat} {f : Nat → Int32} {i y : Int32} (C : oa_C G cc nL own ret rm O A) (q0 : Nat) (ha : ws[q0]? = some (a, .inl (oa_id O 0, n, .inl f))) (h : oa_rd f n i = some y) (hd : decode cc pc = .ok (.iaload, 1)) (kk : ww G nL O A Q cs (pc + 1) L (.int y :: rest) ws) : ww G nL O A Q cs pc L (.int i :: .ref a :: rest) ws := by
  obtain ⟨p, l, e, R, s, m, args, below, meth, c⟩ := G
  obtain ⟨hR, hx, hb, hml, hown, hts, hr, hlk, hK, hA, hE⟩ := C
  obtain ⟨hin, rfl⟩ := oa_rd_some h
  intro H locs ls hP hD hS hl
  exact va_iald hx hb hK hP q0 0 ha rfl hin hd (kk H locs ls hP hD hS hl)
theorem ww_zald {a n : Nat} {f : Nat → Int32} {i y : Int32} (C : oa_C G cc nL own ret rm O A) (q0 : Nat) (ha : ws[q0]? = some (a, .inl (oa_id O 1, n, .inl f))) (h : oa_rd f n i = some y) (hd : decode cc pc = .ok (.baload, 1)) (kk : ww G nL O A Q cs (pc + 1) L (.int y :: rest) ws) : ww G nL O A Q cs pc L (.int i :: .ref a :: rest) ws := by
  obtain ⟨p, l, e, R, s, m, args, below, meth, c⟩ := G
  obtain ⟨hR, hx, hb, hml, hown, hts, hr, hlk, hK, hA, hE⟩ := C
  obtain ⟨hin, rfl⟩ := oa_rd_some h
  intro H locs ls hP hD hS hl
  exact va_zald hx hb hK hP q0 1 ha rfl hin hd (kk H locs ls hP hD hS hl)
theorem ww_lald {a n : Nat} {f : Nat → Int64} {i : Int32} {y : Int64} (C : oa_C G cc nL own ret rm O A) (q0 : Nat) (ha : ws[q0]? = some (a, .inl (oa_id O 2, n, .inr (.inl f)))) (h : oa_rdL f n i = some y) (hd : decode cc pc = .ok (.laload, 1)) (kk : ww G nL O A Q cs (pc + 1) L (.long y :: rest) ws) : ww G nL O A Q cs pc L (.int i :: .ref a :: rest) ws := by
  obtain ⟨p, l, e, R, s, m, args, below, meth, c⟩ := G
  obtain ⟨hR, hx, hb, hml, hown, hts, hr, hlk, hK, hA, hE⟩ := C
  obtain ⟨hin, rfl⟩ := oa_rdL_some h
  intro H locs ls hP hD hS hl
  exact va_lald hx hb hK hP q0 2 ha rfl hin hd (kk H locs ls hP hD hS hl)
theorem ww_iast {St : Type} {X X1 : St} {a n : Nat} {f g : Nat → Int32} {i x : Int32} (C : oa_C G cc nL own ret rm O A) (w : St → va_W) (q0 : Nat) (ha : ws[q0]? = some (a, .inl (oa_id O 0, n, .inl f))) (h : oa_wr f n i x = some g) (hX : X1 = X) (hw : ws.set q0 (a, .inl (oa_id O 0, n, .inl g)) = w X) (hd : decode cc pc = .ok (.iastore, 1)) (kk : ww G nL O A Q cs (pc + 1) L rest (w X1)) : ww G nL O A Q cs pc L (.int x :: .int i :: .ref a :: rest) ws := by
  obtain ⟨p, l, e, R, s, m, args, below, meth, c⟩ := G
  obtain ⟨hR, hx, hb, hml, hown, hts, hr, hlk, hK, hA, hE⟩ := C
  obtain ⟨hin, rfl⟩ := oa_wr_some h
  subst hX
  intro H locs ls hP hD hS hl
  exact va_iast hx hb hK hP hD hS q0 0 ha rfl hin hd (fun H1 locs1 hP1 hD1 hS1 => kk H1 locs1 ls (hw ▸ hP1) (hw ▸ hD1) hS1 hl)
theorem ww_zast {St : Type} {X X1 : St} {a n : Nat} {f g : Nat → Int32} {i x : Int32} (C : oa_C G cc nL own ret rm O A) (w : St → va_W) (q0 : Nat) (ha : ws[q0]? = some (a, .inl (oa_id O 1, n, .inl f))) (h : oa_wr f n i (vp_nar .boolean x) = some g) (hX : X1 = X) (hw : ws.set q0 (a, .inl (oa_id O 1, n, .inl g)) = w X) (hd : decode cc pc = .ok (.bastore, 1)) (kk : ww G nL O A Q cs (pc + 1) L rest (w X1)) : ww G nL O A Q cs pc L (.int x :: .int i :: .ref a :: rest) ws := by
  obtain ⟨p, l, e, R, s, m, args, below, meth, c⟩ := G
  obtain ⟨hR, hx, hb, hml, hown, hts, hr, hlk, hK, hA, hE⟩ := C
  obtain ⟨hin, rfl⟩ := oa_wr_some h
  subst hX
  intro H locs ls hP hD hS hl
  exact va_zast hx hb hK hP hD hS q0 1 ha rfl hin hd (fun H1 locs1 hP1 hD1 hS1 => kk H1 locs1 ls (hw ▸ hP1) (hw ▸ hD1) hS1 hl)
theorem ww_last {St : Type} {X X1 : St} {a n : Nat} {f g : Nat → Int64} {i : Int32} {x : Int64} (C : oa_C G cc nL own ret rm O A) (w : St → va_W) (q0 : Nat) (ha : ws[q0]? = some (a, .inl (oa_id O 2, n, .inr (.inl f)))) (h : oa_wrL f n i x = some g) (hX : X1 = X) (hw : ws.set q0 (a, .inl (oa_id O 2, n, .inr (.inl g))) = w X) (hd : decode cc pc = .ok (.lastore, 1)) (kk : ww G nL O A Q cs (pc + 1) L rest (w X1)) : ww G nL O A Q cs pc L (.long x :: .int i :: .ref a :: rest) ws := by
  obtain ⟨p, l, e, R, s, m, args, below, meth, c⟩ := G
  obtain ⟨hR, hx, hb, hml, hown, hts, hr, hlk, hK, hA, hE⟩ := C
  obtain ⟨hin, rfl⟩ := oa_wrL_some h
  subst hX
  intro H locs ls hP hD hS hl
  exact va_last hx hb hK hP hD hS q0 2 ha rfl hin hd (fun H1 locs1 hP1 hD1 hS1 => kk H1 locs1 ls (hw ▸ hP1) (hw ▸ hD1) hS1 hl)
/-- an array of references: which one it is, is known at each place -/
theorem ww_aald {a n i0 b t0 : Nat} {Cn : String} {f : Nat → Option Nat} {i : Int32} (C : oa_C G cc nL own ret rm O A) (q0 : Nat) (ha : ws[q0]? = some (a, .inl (oa_id O t0, n, .inr (.inr (.inr (.inr f)))))) (ht : (oa_tys O.2.2.2.2)[t0]? = some (oa_id O t0, .object Cn)) (hi : i = nI i0) (hn : i0 < n) (hn2 : n < 2 ^ 31) (hf : f i0 = some b) (hd : decode cc pc = .ok (.aaload, 1)) (kk : ww G nL O A Q cs (pc + 1) L (.ref b :: rest) ws) : ww G nL O A Q cs pc L (.int i :: .ref a :: rest) ws := by
  obtain ⟨p, l, e, R, s, m, args, below, meth, c⟩ := G
  obtain ⟨hR, hx, hb, hml, hown, hts, hr, hlk, hK, hA, hE⟩ := C
  subst hi
  intro H locs ls hP hD hS hl
  refine va_aldq hx hb hK hP q0 t0 ha ht (vp_in_nI hn hn2) hd ?_
  rw [nI_clamp (Nat.lt_trans hn hn2), hf]
  exact kk H locs ls hP hD hS hl
/-- a static row of the class, and its elements -/
theorem ww_tld {k : Nat} {i y : Int32} (C : oa_C G cc nL own ret rm O A) (hk : k < 5) (h : oa_rd (oa_tbv k) (oa_tln k) i = some y) (hd : decode cc pc = .ok (.iaload, 1)) (kk : ww G nL O A Q cs (pc + 1) L (.int y :: rest) ws) : ww G nL O A Q cs pc L (.int i :: .ref (O.1 k) :: rest) ws := by
  obtain ⟨p, l, e, R, s, m, args, below, meth, c⟩ := G
  obtain ⟨hR, hx, hb, hml, hown, hts, hr, hlk, hK, hA, hE⟩ := C
  obtain ⟨hin, rfl⟩ := oa_rd_some h
  intro H locs ls hP hD hS hl
  exact va_ti hx hb (hE.1 k hk).2 hS hin rfl hd (kk H locs ls hP hD hS hl)
theorem ww_gsN {k index : Nat} {ho : String} (C : oa_C G cc nL own ret rm O A) (hk : k < 5) (hw : Cond.fieldLinkNest own index "OneAnger" (oa_tnm k) "[I" ho ∈ oa_nest) (hd : decode cc pc = .ok (.getstatic index, 3)) (kk : ww G nL O A Q cs (pc + 3) L (.ref (O.1 k) :: rest) ws) : ww G nL O A Q cs pc L rest ws := by
  obtain ⟨p, l, e, R, s, m, args, below, meth, c⟩ := G
  obtain ⟨hR, hx, hb, hml, hown, hts, hr, hlk, hK, hA, hE⟩ := C
  intro H locs ls hP hD hS hl
  exact va_getsN hx hb (hE.1 k hk).1 hS hown (va_Nw.use rfl (hE.2.2.2.2.2.1 _ hw)) (fun _ h => h) hd (kk H locs ls hP hD hS hl)
theorem ww_gs {k index : Nat} (C : oa_C G cc nL own ret rm O A) (hk : k < 5) (hw : Cond.fieldLink own index "OneAnger" (oa_tnm k) "[I" ∈ oa_gw) (hd : decode cc pc = .ok (.getstatic index, 3)) (kk : ww G nL O A Q cs (pc + 3) L (.ref (O.1 k) :: rest) ws) : ww G nL O A Q cs pc L rest ws := by
  obtain ⟨p, l, e, R, s, m, args, below, meth, c⟩ := G
  obtain ⟨hR, hx, hb, hml, hown, hts, hr, hlk, hK, hA, hE⟩ := C
  intro H locs ls hP hD hS hl
  exact va_gets hx hb (hE.1 k hk).1 hS hown (hts _ hw) (fun _ h => h) hd (kk H locs ls hP hD hS hl)
/-! ends -/
theorem oa_end {p : Program} {l : Launch} {e : Env} {R : Room} {s : State} {m : MethodId} {args : Array Value} {below : List Frame} {meth : Method} {c : Code} {rv : Option Value} {Wf : va_W → Prop} {H : Heap} {locs : List Loc} (C : oa_C (p, l, e, R, s, m, args, below, meth, c) cc nL own ret rm O A) (hW1 : Wf ws) (hP : va_P O.2.2.2.1 vwCl ws H) (hD : va_D A ws) (hS : va_S A s.heap H locs) : ∀ t : State, t.heap = H → s.WarmedH t.vm → oa_QC O A rv Wf args s (.returned rv) t := by
  obtain ⟨hR, hx, hb, hml, hown, hts, hr, hlk, hK, hA, hE⟩ := C
  intro t ht hW
  exact ⟨⟨rfl, ws, hW1, by rw [ht]; exact hP, va_K.moved hW.alike hK, hD⟩, hS.F ht⟩
theorem ww_iret {v : Int32} {Wf : va_W → Prop} (C : oa_C G cc nL own (some .int) rm O A) (hW1 : Wf ws) (hd : decode cc pc = .ok (.ireturn, 1)) : ww G nL O A (oa_Q G O A cs (some (.int v)) Wf) cs pc L [.int v] ws := by
  obtain ⟨p, l, e, R, s, m, args, below, meth, c⟩ := G
  have C2 := C
  obtain ⟨hR, hx, hb, hml, hown, hts, hr, hlk, hK, hA, hE⟩ := C
  intro H locs ls hP hD hS hl
  exact W.iret hx hb hr (oa_end C2 hW1 hP hD hS) hS.2.2 hd hlk
theorem ww_zret {v : Int32} {Wf : va_W → Prop} {ty : FieldType} (C : oa_C G cc nL own (some ty) rm O A) (hn : narrow ty (.int v) = .int v) (hW1 : Wf ws) (hd : decode cc pc = .ok (.ireturn, 1)) : ww G nL O A (oa_Q G O A cs (some (.int v)) Wf) cs pc L [.int v] ws := by
  obtain ⟨p, l, e, R, s, m, args, below, meth, c⟩ := G
  have C2 := C
  obtain ⟨hR, hx, hb, hml, hown, hts, hr, hlk, hK, hA, hE⟩ := C
  intro H locs ls hP hD hS hl
  exact W.zret hx hb hr hn (oa_end C2 hW1 hP hD hS) hS.2.2 hd hlk
theorem ww_lret {v : Int64} {Wf : va_W → Prop} (C : oa_C G cc nL own (some .long) rm O A) (hW1 : Wf ws) (hd : decode cc pc = .ok (.lreturn, 1)) : ww G nL O A (oa_Q G O A cs (some (.long v)) Wf) cs pc L [.long v] ws := by
  obtain ⟨p, l, e, R, s, m, args, below, meth, c⟩ := G
  have C2 := C
  obtain ⟨hR, hx, hb, hml, hown, hts, hr, hlk, hK, hA, hE⟩ := C
  intro H locs ls hP hD hS hl
  exact W.lret hx hb hr (oa_end C2 hW1 hP hD hS) hS.2.2 hd hlk
theorem ww_vret {Wf : va_W → Prop} (C : oa_C G cc nL own none rm O A) (hW1 : Wf ws) (hd : decode cc pc = .ok (.return_, 1)) : ww G nL O A (oa_Q G O A cs none Wf) cs pc L [] ws := by
  obtain ⟨p, l, e, R, s, m, args, below, meth, c⟩ := G
  have C2 := C
  obtain ⟨hR, hx, hb, hml, hown, hts, hr, hlk, hK, hA, hE⟩ := C
  intro H locs ls hP hD hS hl
  exact W.vret hx hb hr (oa_end C2 hW1 hP hD hS) hS.2.2 hd hlk
/-! calls -/
def oa_put : va_W → List Nat → va_W → va_W
  | ws, i :: js, w :: wc => oa_put (ws.set i w) js wc
  | ws, _, _ => ws
theorem oa_put_get : ∀ (js : List Nat) (wc ws : va_W) (k : Nat) (q : Nat × va_E), js.length = wc.length → (oa_put ws js wc)[k]? = some q → (∃ j : Nat, js[j]? = some k ∧ wc[j]? = some q) ∨ (k ∉ js ∧ ws[k]? = some q)
  | [], _, ws, k, q, _, h => Or.inr ⟨List.not_mem_nil, by simpa [oa_put] using h⟩
  | i :: js, [], ws, k, q, hl, _ => by simp at hl
  | i :: js, w :: wc, ws, k, q, hl, h => by
    rcases oa_put_get js wc (ws.set i w) k q (by simpa using hl) (by simpa [oa_put] using h) with ⟨j, h1, h2⟩ | ⟨h1, h2⟩
    · exact Or.inl ⟨j + 1, by simpa using h1, by simpa using h2⟩
    · by_cases hk : k = i
      · subst hk
        have hlt : k < (ws.set k w).length := (List.getElem?_eq_some_iff.mp h2).1
        rw [List.getElem?_set_self (by simpa using hlt)] at h2
        exact Or.inl ⟨0, by simp, by simpa using h2⟩
      · rw [List.getElem?_set_ne (Ne.symm hk)] at h2
        exact Or.inr ⟨by simp [hk, h1], h2⟩
theorem oa_ad {wc wd : va_W} (h : wd.map (fun q => q.1) = wc.map (fun q => q.1)) {j : Nat} {q : Nat × va_E} (hj : wd[j]? = some q) : ∃ e, wc[j]? = some (q.1, e) := by
  have h1 : (wd.map (fun q => q.1))[j]? = some q.1 := by rw [List.getElem?_map, hj]; rfl
  rw [h, List.getElem?_map] at h1
  cases hc : wc[j]? with
  | none => rw [hc] at h1; cases h1
  | some x =>
    rw [hc] at h1
    obtain ⟨x1, x2⟩ := x
    cases h1
    exact ⟨x2, rfl⟩
theorem oa_map {ws wc : va_W} {js : List Nat} (h : js.map (fun i => ws[i]?) = wc.map some) {j : Nat} {q : Nat × va_E} (hj : wc[j]? = some q) : ∃ i, js[j]? = some i ∧ ws[i]? = some q := by
  have h1 : (js.map (fun i => ws[i]?))[j]? = some (some q) := by rw [h, List.getElem?_map, hj]; rfl
  rw [List.getElem?_map] at h1
  cases hi : js[j]? with
  | none => rw [hi] at h1; cases h1
  | some i => rw [hi] at h1; exact ⟨i, rfl, Option.some.inj h1⟩
theorem oa_putP {B : Nat → Prop} {D : va_G} {cl : List vw_C} {ws wc wd : va_W} {js : List Nat} {H H1 : Heap} (hP : va_P D cl ws H) (hD : va_D B ws) (hC : js.map (fun i => ws[i]?) = wc.map some) (ha : wd.map (fun q => q.1) = wc.map (fun q => q.1)) (hk : ∀ q : Nat, q < H.size → ¬ va_A wc H.size q → H1[q]? = H[q]?) (hP1 : va_P D cl wd H1) : va_P D cl (oa_put ws js wd) H1 := by
  have hlen : js.length = wd.length := by
    have h1 := congrArg List.length hC
    have h2 := congrArg List.length ha
    simp only [List.length_map] at h1 h2
    omega
  intro k q h
  rcases oa_put_get js wd ws k q hlen h with ⟨j, h1, h2⟩ | ⟨h1, h2⟩
  · exact hP1 j q h2
  · refine (hP k q h2).kept (hk q.1 (hP k q h2).lt ?_)
    rintro (⟨j, e, hj⟩ | hge)
    · obtain ⟨i, hi1, hi2⟩ := oa_map hC hj
      have := hD.1 i k _ _ hi2 h2 rfl
      subst this
      exact h1 (List.mem_of_getElem? hi1)
    · exact absurd (hP k q h2).lt (Nat.not_lt.mpr hge)
theorem oa_putD {B : Nat → Prop} {ws wc wd : va_W} {js : List Nat} (hD : va_D B ws) (hC : js.map (fun i => ws[i]?) = wc.map some) (ha : wd.map (fun q => q.1) = wc.map (fun q => q.1)) : va_D B (oa_put ws js wd) := by
  have hlen : js.length = wd.length := by
    have h1 := congrArg List.length hC
    have h2 := congrArg List.length ha
    simp only [List.length_map] at h1 h2
    omega
  have key : ∀ (k : Nat) (q : Nat × va_E), (oa_put ws js wd)[k]? = some q → ∃ q0, ws[k]? = some q0 ∧ q0.1 = q.1 := by
    intro k q h
    rcases oa_put_get js wd ws k q hlen h with ⟨j, h1, h2⟩ | ⟨h1, h2⟩
    · obtain ⟨e, he⟩ := oa_ad ha h2
      obtain ⟨i, hi1, hi2⟩ := oa_map hC he
      have : i = k := Option.some.inj (hi1.symm.trans h1)
      subst this
      exact ⟨_, hi2, rfl⟩
    · exact ⟨q, h2, rfl⟩
  refine ⟨fun i j x y hi hj hxy => ?_, fun k q hk => ?_⟩
  · obtain ⟨x0, h1, h2⟩ := key i x hi
    obtain ⟨y0, h3, h4⟩ := key j y hj
    exact hD.1 i j x0 y0 h1 h3 (h2.trans (hxy.trans h4.symm))
  · obtain ⟨q0, h1, h2⟩ := key k q hk
    rw [← h2]
    exact hD.2 k q0 h1
theorem oa_putS : ∀ (js : List Nat) (wc ws : va_W), js.map (fun i => ws[i]?) = wc.map some → oa_put ws js wc = ws
  | [], _, ws, _ => by simp [oa_put]
  | i :: js, [], ws, h => by simp at h
  | i :: js, w :: wc, ws, h => by
    simp only [List.map_cons, List.cons.injEq] at h
    have hs : ws.set i w = ws := by
      apply List.ext_getElem?
      intro k
      by_cases hk : k = i
      · subst hk
        rw [List.getElem?_set_self (List.getElem?_eq_some_iff.mp h.1).1, h.1]
      · rw [List.getElem?_set_ne (Ne.symm hk)]
    show oa_put (ws.set i w) js wc = ws
    rw [hs]
    exact oa_putS js wc ws h.2
/-- a callee: its code, its class, how many arguments -/
def oa_Y (y : MethodName) (cy : ByteArray) (ny : Nat) (ry : Option FieldType) (n : Nat) : Prop := Cond.code y cy ny ry ∈ oa_gw ∧ Cond.initialized y.cls ∈ oa_gw ∧ y.cls ≠ "java/lang/invoke/MethodHandle" ∧ y.cls ≠ "java/lang/invoke/VarHandle" ∧ (parseMethodDescriptor y.desc).map (fun d => d.parameters.length) = some n
def oa_YV (y : MethodName) : Prop := Cond.instanceMethod y ∈ oa_gw ∧ Cond.selects y.cls y y ∈ oa_gw
theorem oa_blind {av : List Value} {W0 : va_W} {sz : Nat} : FrameBlind (oa_PC O av W0 sz) := by
  intro a U g mk q
  obtain ⟨q0, q1, qP, qK, qD, qE⟩ := q
  exact ⟨q0, q1, qP, va_K.moved (u := U) (U := U.calling g mk a) (Vm.Alike.refl U.vm) qK, qD, oa_E.same (s := U) (U := U.calling g mk a) rfl qE⟩
theorem oa_pre {p : Program} {l : Launch} {e : Env} {R : Room} {s : State} {m : MethodId} {args : Array Value} {below : List Frame} {meth : Method} {c : Code} {H : Heap} {locs : List Loc} {av : List Value} {wc : va_W} {js : List Nat} (C : oa_C (p, l, e, R, s, m, args, below, meth, c) cc nL own ret rm O A) (hP : va_P O.2.2.2.1 vwCl ws H) (hD : va_D A ws) (hS : va_S A s.heap H locs) (hn : va_nd js = true) (hC : js.map (fun i => ws[i]?) = wc.map some) : ∀ U : State, U.heap = H → s.WarmedH U.vm → oa_PC O av wc H.size av.toArray U := by
  obtain ⟨hR, hx, hb, hml, hown, hts, hr, hlk, hK, hA, hE⟩ := C
  intro U hU hW
  have hPc : va_P O.2.2.2.1 vwCl wc H := fun j q hj => by
    obtain ⟨i, hi1, hi2⟩ := oa_map hC hj
    exact hP i q hi2
  have hDc := hD.sub (ws' := wc) js hn hC
  have hF := va_free (wc := wc) hD hS hA js hC
  exact ⟨rfl, by rw [hU], by rw [hU]; exact hPc, va_K.moved hW.alike hK, hDc.weaken (fun _ _ _ _ => trivial), by rw [hU]; exact ((hE.kept hS.2.1).narrow hF).warm hW⟩
theorem oa_back {p : Program} {l : Launch} {e : Env} {R : Room} {s : State} {m : MethodId} {args : Array Value} {below : List Frame} {meth : Method} {c : Code} {H : Heap} {locs : List Loc} {ls : Array Slot} {wc wd ws' : va_W} {js : List Nat} {st : List Value} {rv : Option Value} {a : Array Value} {Wf : va_W → Prop} (C : oa_C (p, l, e, R, s, m, args, below, meth, c) cc nL own ret rm O A) (hP : va_P O.2.2.2.1 vwCl ws H) (hD : va_D A ws) (hS : va_S A s.heap H locs) (hl : lv_has ls nL L) (hC : js.map (fun i => ws[i]?) = wc.map some) (ha : wd.map (fun q => q.1) = wc.map (fun q => q.1)) (hw : oa_put ws js wd = ws')
    (hf : ∀ W1, Wf W1 → W1 = wd) (hr : va_Run p l e R s m args below meth c H locs cs.1 cs.2 0 0 (F0 m pc ls st) rest (oa_QC O (va_A wc H.size) rv Wf a) (va_A wc H.size)) (kk : ww (p, l, e, R, s, m, args, below, meth, c) nL O A Q cs (pc + 3) L (rv.toList ++ rest) ws') : W p l e R s m args below meth c H locs cs.1 cs.2 Q (F0 m pc ls st) := by
  obtain ⟨hRm, hx, hb, hml, hown, hts, hret, hlk, hK, hA, hE⟩ := C
  have hF := va_free (wc := wc) hD hS hA js hC
  intro T hT X
  obtain ⟨v, st₀, t, T', Lc, h0, X', hL, e1, e2, ⟨⟨hv, W1, hW1, hPc, hKc, hDc⟩, hz, hk⟩, stp⟩ := hr T hT X
  obtain rfl := hf W1 hW1
  have hv : v = rv := by injection hv
  subst hv
  rw [h0] at hz hk
  have hS1 : va_S A s.heap T'.heap (locs ++ Lc) := by
    refine ⟨Nat.le_trans hS.1 (by rw [e1]; exact hz), fun q h1 h2 => ?_, fun q hq => ?_⟩
    · rw [e1, hk q (Nat.lt_of_lt_of_le h1 hS.1) (fun z => h2 (hF q z))]
      exact hS.2.1 q h1 h2
    · rcases List.mem_append.mp hq with h | h
      · exact hS.2.2 q h
      · exact hF _ (hL q h)
  obtain ⟨t2, a1, b1⟩ := kk T'.heap (locs ++ Lc) ls (by rw [← hw]; exact oa_putP hP hD hC ha (fun q h1 h2 => by rw [e1]; exact hk q h1 h2) (by rw [e1]; exact hPc)) (by rw [← hw]; exact oa_putD hD hC ha) hS1 hl T' rfl X'
  exact ⟨t2, stp t2 a1, b1⟩
theorem ww_callV {index ny n : Nat} {st0 st1 : List Value} {y : MethodName} {cy : ByteArray} {ry : Option FieldType} {rmy : Room} {b : Nat} {As : List Value} {wc wd ws' : va_W} {rv : Option Value} {ci : Nat} {fs : List Value} {Cn : u_T × Nat} {Wf : va_W → Prop} (C : oa_C G cc nL own ret rm O A) (hY : oa_Y y cy ny ry n) (hV : oa_YV y) (hlink : Cond.methodLink own index y ∈ oa_gw) (hM : oa_M G.2.1 y cy ny ry rmy O (.ref b :: As) wc rv Wf) (js : List Nat) (q0 : Nat) (hc : vwCl[ci]? = some (y.cls, Cn)) (hq : ws[q0]? = some (b, .inr (ci, fs))) (hnd : va_nd js = true) (hC : js.map (fun i => ws[i]?) = wc.map some) (ha : wd.map (fun q => q.1) = wc.map (fun q => q.1)) (hw : oa_put ws js wd = ws') (hWf : ∀ W1, Wf W1 → W1 = wd) (hz : rmy.cells = 0 ∧ rmy.slots = 0) (hcs : cs.1 ≤ rm.cells ∧ cs.2 ≤ rm.slots) (hrm : rmy.frames + 1 ≤ rm.frames ∧ 8 + (ny + 11) + rmy.locals ≤ rm.locals) (hAs : As.length = n) (hst : (rest.map fun v => v.category).sum ≤ 8) (h0 : As.reverse ++ .ref b :: rest = st0) (h1 : rv.toList ++ rest = st1) (hd : decode cc pc = .ok (.invokevirtual index, 3)) (kk : ww G nL O A Q cs (pc + 3) L st1 ws') : ww G nL O A Q cs pc L st0 ws := by
  subst h0 h1
  obtain ⟨p, l, e, R, s, m, args, below, meth, c⟩ := G
  have C2 := C
  obtain ⟨hRm, hx, hb, hml, hown, hts, hr, hlk, hK, hA, hE⟩ := C
  subst hRm
  obtain ⟨y1, y2, y3, y4, y5⟩ := hY
  intro H locs ls hP hD hS hl
  have hMs := hM H.size
  rw [hz.1, hz.2] at hMs
  exact oa_back C2 hP hD hS hl hC ha hw hWf (va_runV ⟨hx, hb, hml, hown, hts⟩ hMs ⟨callB_of n hts (oa_sub y1) rfl hz.1 hz.2 (hts _ y2) (hts _ hlink) ⟨y3, y4, y5⟩ hrm, hts _ hV.1, hts _ hV.2⟩ ⟨oa_blind, va_recv hK hP hc hq, oa_pre C2 hP hD hS hnd hC⟩ rfl hAs hl.1 rfl (lv_room hst) hd ⟨hcs.1, hcs.2⟩) kk
theorem ww_callS {index ny n : Nat} {st0 st1 : List Value} {y : MethodName} {cy : ByteArray} {ry : Option FieldType} {rmy : Room} {As : List Value} {wc wd ws' : va_W} {rv : Option Value} {Wf : va_W → Prop} (C : oa_C G cc nL own ret rm O A) (hY : oa_Y y cy ny ry n) (hV : Cond.static y ∈ oa_gw) (hlink : Cond.methodLink own index y ∈ oa_gw) (hM : oa_M G.2.1 y cy ny ry rmy O As wc rv Wf) (js : List Nat) (hnd : va_nd js = true) (hC : js.map (fun i => ws[i]?) = wc.map some) (ha : wd.map (fun q => q.1) = wc.map (fun q => q.1)) (hw : oa_put ws js wd = ws') (hWf : ∀ W1, Wf W1 → W1 = wd) (hz : rmy.cells = 0 ∧ rmy.slots = 0) (hcs : cs.1 ≤ rm.cells ∧ cs.2 ≤ rm.slots) (hrm : rmy.frames + 1 ≤ rm.frames ∧ 8 + (ny + 11) + rmy.locals ≤ rm.locals) (hAs : As.length = n) (hst : (rest.map fun v => v.category).sum ≤ 8) (h0 : As.reverse ++ rest = st0) (h1 : rv.toList ++ rest = st1) (hd : decode cc pc = .ok (.invokestatic index, 3)) (kk : ww G nL O A Q cs (pc + 3) L st1 ws') : ww G nL O A Q cs pc L st0 ws := by
  subst h0 h1
  obtain ⟨p, l, e, R, s, m, args, below, meth, c⟩ := G
  have C2 := C
  obtain ⟨hRm, hx, hb, hml, hown, hts, hr, hlk, hK, hA, hE⟩ := C
  subst hRm
  obtain ⟨y1, y2, y3, y4, y5⟩ := hY
  intro H locs ls hP hD hS hl
  have hMs := hM H.size
  rw [hz.1, hz.2] at hMs
  exact oa_back C2 hP hD hS hl hC ha hw hWf (va_runS ⟨hx, hb, hml, hown, hts⟩ hMs ⟨callB_of n hts (oa_sub y1) rfl hz.1 hz.2 (hts _ y2) (hts _ hlink) ⟨y3, y4, y5⟩ hrm, hts _ hV⟩ ⟨oa_blind, oa_pre C2 hP hD hS hnd hC⟩ rfl hAs hl.1 rfl (lv_room hst) hd ⟨hcs.1, hcs.2⟩) kk
theorem ww_callN {index ny n : Nat} {st0 st1 : List Value} {y : MethodName} {cy : ByteArray} {ry : Option FieldType} {rmy : Room} {As : List Value} {wc wd ws' : va_W} {rv : Option Value} {Wf : va_W → Prop} {ho : String} (C : oa_C G cc nL own ret rm O A) (hY : oa_Y y cy ny ry n) (hV : Cond.static y ∈ oa_gw) (hlink : Cond.methodLinkNest own index y ho ∈ oa_nest) (hM : oa_M G.2.1 y cy ny ry rmy O As wc rv Wf) (js : List Nat) (hnd : va_nd js = true) (hC : js.map (fun i => ws[i]?) = wc.map some) (ha : wd.map (fun q => q.1) = wc.map (fun q => q.1)) (hw : oa_put ws js wd = ws') (hWf : ∀ W1, Wf W1 → W1 = wd) (hz : rmy.cells = 0 ∧ rmy.slots = 0) (hcs : cs.1 ≤ rm.cells ∧ cs.2 ≤ rm.slots) (hrm : rmy.frames + 1 ≤ rm.frames ∧ 8 + (ny + 11) + rmy.locals ≤ rm.locals) (hAs : As.length = n) (hst : (rest.map fun v => v.category).sum ≤ 8) (h0 : As.reverse ++ rest = st0) (h1 : rv.toList ++ rest = st1) (hd : decode cc pc = .ok (.invokestatic index, 3)) (kk : ww G nL O A Q cs (pc + 3) L st1 ws') : ww G nL O A Q cs pc L st0 ws := by
  subst h0 h1
  obtain ⟨p, l, e, R, s, m, args, below, meth, c⟩ := G
  have C2 := C
  obtain ⟨hRm, hx, hb, hml, hown, hts, hr, hlk, hK, hA, hE⟩ := C
  subst hRm
  obtain ⟨y1, y2, y3, y4, y5⟩ := hY
  intro H locs ls hP hD hS hl
  have hMs := hM H.size
  rw [hz.1, hz.2] at hMs
  exact oa_back C2 hP hD hS hl hC ha hw hWf (va_runSN ⟨hx, hb, hml, hown, hts⟩ hMs ⟨va_cnB n hts (oa_sub y1) rfl hz.1 hz.2 (hE.2.2.2.2.2.1 _ hlink) (hts _ y2) ⟨y3, y4, y5⟩ hrm, hts _ hV, trivial⟩ ⟨oa_blind, oa_pre C2 hP hD hS hnd hC⟩ rfl hAs hl.1 rfl (lv_room hst) hd ⟨hcs.1, hcs.2⟩) kk
/-- a method's contract out of its walk -/
theorem oa_Mof {l : Launch} {y : MethodName} {cy : ByteArray} {ny : Nat} {av : List Value} {W0 : va_W} {rv : Option Value} {Wf : va_W → Prop} (hy : plainName y.cls = true) (hl : (lg_sl av).length ≤ ny) (h : ∀ (G : oa_G) (B : Nat → Prop), G.2.1 = l → oa_C G cy ny y.cls ret rm O B → ww G ny O B (oa_Q G O B (rm.cells, rm.slots) rv Wf) (0, 0) 0 (lv_args 0 av) [] W0) : oa_M l y cy ny ret rm O av W0 rv Wf := by
  intro sz
  refine Met.ofW (cc := cy) (maxL := ny) (ret := ret) hy rfl ?_
  intro p e s m args below meth c s₁ B hml hv
  obtain ⟨rfl, hsz, hP, hK, hD0, hE⟩ := hv
  have hts := atoms_spec (ws := .code y cy ny ret :: oa_gw) B.pre
  have hown : s.vm.findClass y.cls = some m.cls := findClass_of_methodNamed B.named
  subst hsz
  have hk := h (p, l, e, (headSpec (.code y cy ny ret :: oa_gw) rm).room, s, m, av.toArray, below, meth, c) (va_A W0 s.heap.size) rfl ⟨rfl, B.exec, B.bytes, hml, hown, fun w hw => hts w (List.mem_cons_of_mem _ hw), B.returns, B.notSynchronized, hK, fun q hq => Or.inr hq, hE⟩
  rw [lg_entry_eq]
  exact hk s.heap [] _ hP hD0.self va_S.rf (lv_entry av hl)
end OA
