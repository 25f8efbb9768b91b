/-! making: new, newarray, anewarray, final fields, constructors -/
def oa_N (own : String) (index ci N : Nat) (ty : Nat → FieldType) : Prop :=
  ∃ (Cn : String) (T : u_T), vwCl[ci]? = some (Cn, T, N) ∧ (∀ w ∈ u_ws Cn T N, w ∈ oa_gw) ∧ (∀ j, j < N → parseFieldDescriptor (T j).2.2.1 = some (ty j)) ∧ Cond.classLink own index Cn ∈ oa_gw ∧ Cond.instantiable Cn N ∈ oa_gw ∧ Cond.initialized Cn ∈ oa_gw
theorem oa_oiI : Cond.instanceMethod objectInit ∈ oa_gw := oa_at 86 (by decide +kernel) rfl
theorem oa_oiC : Cond.code objectInit ⟨#[0xb1]⟩ 1 none ∈ oa_gw := oa_at 87 (by decide +kernel) rfl
section OA
variable {G : oa_G} {cc : ByteArray} {nL : Nat} {own : String} {ret : Option FieldType} {rm : Room} {O : oa_O} {A : Nat → Prop} {Q : State → Prop} {cs : Nat × Nat} {L : List (Nat × Value)} {rest : List Value} {ws : va_W} {pc : Nat}
theorem ww_new {index ci N : Nat} {ty : Nat → FieldType} {fs : List Value} (C : oa_C G cc nL own ret rm O A) (F : oa_N own index ci N ty) (hfs : ∀ j, j < N → defaultValue (ty j) = vp_V fs j) (hcs : cs.1 + 1 ≤ rm.cells ∧ cs.2 + N ≤ rm.slots) (hd : decode cc pc = .ok (.new index, 3)) (kk : ∀ q : Nat, ww G nL O A Q (cs.1 + 1, cs.2 + N) (pc + 3) L (.ref q :: rest) (ws ++ [(q, .inr (ci, fs))])) : ww G nL O A Q cs pc L rest ws := by
  obtain ⟨p, l, e, R, s, m, args, below, meth, c⟩ := G
  obtain ⟨hR, hx, hb, hml, hown, hts, hr, hlk, hK, hA, hE⟩ := C
  obtain ⟨Cn, T, f1, f2, f3, f4, f5, f6⟩ := F
  subst hR
  intro H locs ls hP hD hS hl
  exact va_new hx hb hts f2 ty f3 hown (hts _ f4) (hts _ f5) (hts _ f6) hK hP hD hS hA f1 hfs hcs.1 hcs.2 hd (fun q H1 hP1 hD1 hS1 => kk q H1 locs ls hP1 hD1 hS1 hl)
theorem ww_newI {n : Int32} (C : oa_C G cc nL own ret rm O A) (hw : Cond.arrayClass .int ∈ oa_gw) (N : Nat) (hn : n = nI N) (hN : N < 100000) (hcs : cs.1 + 1 ≤ rm.cells ∧ cs.2 + N ≤ rm.slots) (hd : decode cc pc = .ok (.newarray .int, 2)) (kk : ∀ q : Nat, ww G nL O A Q (cs.1 + 1, cs.2 + N) (pc + 2) L (.ref q :: rest) (ws ++ [(q, .inl (oa_id O 0, N, .inl (fun _ => 0)))])) : ww G nL O A Q cs pc L (.int n :: rest) ws := by
  obtain ⟨p, l, e, R, s, m, args, below, meth, c⟩ := G
  obtain ⟨hR, hx, hb, hml, hown, hts, hr, hlk, hK, hA, hE⟩ := C
  subst hR hn
  intro H locs ls hP hD hS hl
  refine va_newa (atype := .int) (ty := .int) (a0 := (N, .inl (fun _ => 0))) hx hb (hts _ hw) rfl hK hP hD hS hA (fun _ => rfl) (nI_pos (by omega)) (nI_clamp (by omega)) (by simp [componentBytes]; omega) hcs.1 hcs.2 hd (fun q cA H1 hK1 hP1 hD1 hS1 => ?_)
  have e1 : s.vm.findClass ("[" ++ FieldType.int.toString) = some cA := (hK1.2 5 _ rfl).2
  have e2 : s.vm.findClass ("[" ++ FieldType.int.toString) = some (oa_id O 0) := (hK.2 0 _ rfl).2
  have ec : cA = oa_id O 0 := Option.some.inj (e1.symm.trans e2)
  subst ec
  exact kk q H1 locs ls hP1 hD1 hS1 hl
theorem ww_newZ {n : Int32} (C : oa_C G cc nL own ret rm O A) (hw : Cond.arrayClass .boolean ∈ oa_gw) (N : Nat) (hn : n = nI N) (hN : N < 100000) (hcs : cs.1 + 1 ≤ rm.cells ∧ cs.2 + N ≤ rm.slots) (hd : decode cc pc = .ok (.newarray .boolean, 2)) (kk : ∀ q : Nat, ww G nL O A Q (cs.1 + 1, cs.2 + N) (pc + 2) L (.ref q :: rest) (ws ++ [(q, .inl (oa_id O 1, N, .inl (fun _ => 0)))])) : ww G nL O A Q cs pc L (.int n :: rest) ws := by
  obtain ⟨p, l, e, R, s, m, args, below, meth, c⟩ := G
  obtain ⟨hR, hx, hb, hml, hown, hts, hr, hlk, hK, hA, hE⟩ := C
  subst hR hn
  intro H locs ls hP hD hS hl
  refine va_newa (atype := .boolean) (ty := .boolean) (a0 := (N, .inl (fun _ => 0))) hx hb (hts _ hw) rfl hK hP hD hS hA (fun _ => rfl) (nI_pos (by omega)) (nI_clamp (by omega)) (by simp [componentBytes]; omega) hcs.1 hcs.2 hd (fun q cA H1 hK1 hP1 hD1 hS1 => ?_)
  have e1 : s.vm.findClass ("[" ++ FieldType.boolean.toString) = some cA := (hK1.2 5 _ rfl).2
  have e2 : s.vm.findClass ("[" ++ FieldType.boolean.toString) = some (oa_id O 1) := (hK.2 1 _ rfl).2
  have ec : cA = oa_id O 1 := Option.some.inj (e1.symm.trans e2)
  subst ec
  exact kk q H1 locs ls hP1 hD1 hS1 hl
theorem ww_newJ {n : Int32} (C : oa_C G cc nL own ret rm O A) (hw : Cond.arrayClass .long ∈ oa_gw) (N : Nat) (hn : n = nI N) (hN : N < 100000) (hcs : cs.1 + 1 ≤ rm.cells ∧ cs.2 + N ≤ rm.slots) (hd : decode cc pc = .ok (.newarray .long, 2)) (kk : ∀ q : Nat, ww G nL O A Q (cs.1 + 1, cs.2 + N) (pc + 2) L (.ref q :: rest) (ws ++ [(q, .inl (oa_id O 2, N, .inr (.inl (fun _ => 0))))])) : ww G nL O A Q cs pc L (.int n :: rest) ws := by
  obtain ⟨p, l, e, R, s, m, args, below, meth, c⟩ := G
  obtain ⟨hR, hx, hb, hml, hown, hts, hr, hlk, hK, hA, hE⟩ := C
  subst hR hn
  intro H locs ls hP hD hS hl
  refine va_newa (atype := .long) (ty := .long) (a0 := (N, .inr (.inl (fun _ => 0)))) hx hb (hts _ hw) rfl hK hP hD hS hA (fun _ => rfl) (nI_pos (by omega)) (nI_clamp (by omega)) (by simp [componentBytes]; omega) hcs.1 hcs.2 hd (fun q cA H1 hK1 hP1 hD1 hS1 => ?_)
  have e1 : s.vm.findClass ("[" ++ FieldType.long.toString) = some cA := (hK1.2 5 _ rfl).2
  have e2 : s.vm.findClass ("[" ++ FieldType.long.toString) = some (oa_id O 2) := (hK.2 2 _ rfl).2
  have ec : cA = oa_id O 2 := Option.some.inj (e1.symm.trans e2)
  subst ec
  exact kk q H1 locs ls hP1 hD1 hS1 hl
theorem ww_newq {n : Int32} {index t0 : Nat} {Cn : String} (C : oa_C G cc nL own ret rm O A) (hw : Cond.classLink own index Cn ∈ oa_gw) (hao : Cn = "OneAnger$Village" ∨ Cn = "OneAnger$Sheet") (ht : (oa_tys O.2.2.2.2)[t0]? = some (oa_id O t0, .object Cn)) (N : Nat) (hn : n = nI N) (hN : N < 100000) (hcs : cs.1 + 1 ≤ rm.cells ∧ cs.2 + N ≤ rm.slots) (hd : decode cc pc = .ok (.anewarray index, 3)) (kk : ∀ q : Nat, ww G nL O A Q (cs.1 + 1, cs.2 + N) (pc + 3) L (.ref q :: rest) (ws ++ [(q, .inl (oa_id O t0, N, .inr (.inr (.inr (.inr (fun _ => none))))))])) : ww G nL O A Q cs pc L (.int n :: rest) ws := by
  obtain ⟨p, l, e, R, s, m, args, below, meth, c⟩ := G
  obtain ⟨hR, hx, hb, hml, hown, hts, hr, hlk, hK, hA, hE⟩ := C
  subst hR hn
  intro H locs ls hP hD hS hl
  have hAO : va_AO Cn s := by
    rcases hao with rfl | rfl
    · exact hE.2.2.2.2.2.2.1
    · exact hE.2.2.2.2.2.2.2
  refine va_newq hx hb hown (hts _ hw) hAO hK hP hD hS hA (nI_pos (by omega)) (nI_clamp (by omega)) (by omega) hcs.1 hcs.2 hd (fun q cA H1 hK1 hP1 hD1 hS1 => ?_)
  obtain ⟨kA, comp, -, -, -, e1⟩ := (hK1.2 5 _ rfl).2
  obtain ⟨kB, comp2, -, -, -, e2⟩ := (hK.2 t0 _ ht).2
  have ec : cA = oa_id O t0 := Option.some.inj (e1.symm.trans e2)
  subst ec
  exact kk q H1 locs ls hP1 hD1 hS1 hl
theorem ww_putF {ws' : va_W} {index ci k : Nat} {ty : FieldType} {a : Nat} {fs : List Value} {v : Value} (C : oa_C G cc nL own ret rm O A) (hin : G.2.2.2.2.2.2.2.2.1.name = "<init>") (F : oa_F own index ci k true ty) (hcl : ∀ q, vwCl[ci]? = some q → (q.2.1 k).1 = own) (q0 : Nat) (he : ws[q0]? = some (a, .inr (ci, fs))) (hn : narrow ty v = v) (hfit : fits ty v = true) (hk : k < fs.length) (hw : ws.set q0 (a, .inr (ci, fs.set k v)) = ws') (hd : decode cc pc = .ok (.putfield index, 3)) (kk : ww G nL O A Q cs (pc + 3) L rest ws') : ww G nL O A Q cs pc L (v :: .ref a :: rest) ws := by
  obtain ⟨p, l, e, R, s, m, args, below, meth, c⟩ := G
  obtain ⟨hR, hx, hb, hml, hown, hts, hr, hlk, hK, hA, hE⟩ := C
  obtain ⟨Cn, T, N, ty0, f1, f2, f3, f4, f5, f6, f7, f8⟩ := F
  have hCo : (T k).1 = own := hcl _ f1
  subst hw
  intro H locs ls hP hD hS hl
  exact va_putF hx hb hts f3 ty0 f5 f6 hown hK hP hD hS q0 he f1 k f2 (hts _ f4) (fun _ h => h) f7 hin hCo (by rw [f5 k f2, f8]) hn hfit hk hd (fun H1 locs1 hP1 hD1 hS1 => kk H1 locs1 ls hP1 hD1 hS1 hl)
theorem ww_oinit {index a : Nat} (C : oa_C G cc nL own ret rm O A) (hlink : Cond.methodLink own index objectInit ∈ oa_gw) (hf : 1 ≤ rm.frames) (hlo : (rest.map fun v => v.category).sum + 12 ≤ rm.locals) (hd : decode cc pc = .ok (.invokespecial index, 3)) (kk : ww G nL O A Q cs (pc + 3) L rest ws) : ww G nL O A Q cs pc L (.ref a :: rest) ws := by
  obtain ⟨p, l, e, R, s, m, args, below, meth, c⟩ := G
  obtain ⟨hR, hx, hb, hml, hown, hts, hr, hlk, hK, hA, hE⟩ := C
  subst hR
  intro H locs ls hP hD hS hl
  refine W.objInit hx hb hown (hts _ hlink) (hts _ oa_oiI) (hts _ oa_oiC) rfl (by rw [hml]; exact hl.1) (a := a) (rest := rest) rfl hd hf (by show 2 * 0 + _ + 12 ≤ _; omega) ?_
  exact kk H locs ls hP hD hS hl
theorem ww_cs {k n : Nat} (C : oa_C G cc nL own ret rm O A) (h1 : cs.1 ≤ k) (h2 : cs.2 ≤ n) (kk : ww G nL O A Q (k, n) pc L rest ws) : ww G nL O A Q cs pc L rest ws := by
  obtain ⟨p, l, e, R, s, m, args, below, meth, c⟩ := G
  intro H locs ls hP hD hS hl
  exact W.widen h1 h2 (kk H locs ls hP hD hS hl)
/-- behind a constructor: its object, the last cell, and what it made -/
theorem oa_backI {p : Program} {l : Launch} {e : Env} {R : Room} {s : State} {m : MethodId} {args : Array Value} {below : List Frame} {meth : Method} {c : Code} {H : Heap} {locs : List Loc} {ls : Array Slot} {wr : va_W} {q0 : Nat × va_E} {st : List Value} {mc ms : Nat} {rv : Option Value} {a : Array Value} {Wf : va_W → Prop} (C : oa_C (p, l, e, R, s, m, args, below, meth, c) cc nL own ret rm O A) (hP : va_P O.2.2.2.1 vwCl (wr ++ [q0]) H) (hD : va_D A (wr ++ [q0])) (hS : va_S A s.heap H locs) (hl : lv_has ls nL L)
    (hr : va_Run p l e R s m args below meth c H locs cs.1 cs.2 mc ms (F0 m pc ls st) rest (oa_QC O (va_A [q0] H.size) rv Wf a) (va_A [q0] H.size)) (kk : ∀ W1, Wf W1 → ww (p, l, e, R, s, m, args, below, meth, c) nL O A Q (cs.1 + mc, cs.2 + ms) (pc + 3) L (rv.toList ++ rest) (wr ++ W1)) : W p l e R s m args below meth c H locs cs.1 cs.2 Q (F0 m pc ls st) := by
  obtain ⟨hRm, hx, hb, hml, hown, hts, hret, hlk, hK, hA, hE⟩ := C
  have hC : [wr.length].map (fun i => (wr ++ [q0])[i]?) = [q0].map some := by simp
  have hRr : (List.range wr.length).map (fun i => (wr ++ [q0])[i]?) = wr.map some := by
    apply List.ext_getElem?
    intro i
    by_cases hi : i < wr.length
    · rw [List.getElem?_map, List.getElem?_map, List.getElem?_range hi]
      show some ((wr ++ [q0])[i]?) = (wr[i]?).map some
      rw [List.getElem?_append_left hi]
      simp [hi]
    · rw [List.getElem?_map, List.getElem?_map, List.getElem?_eq_none (by simp; omega), List.getElem?_eq_none (by omega)]
      rfl
  have hnd : va_nd (List.range wr.length) = true := by
    have key : ∀ (l : List Nat), l.Nodup → va_nd l = true := by
      intro l
      induction l with
      | nil => intro _; rfl
      | cons x l ih =>
        intro h
        rw [List.nodup_cons] at h
        simp only [va_nd, Bool.and_eq_true, decide_eq_true_eq]
        exact ⟨h.1, ih h.2⟩
    exact key _ List.nodup_range
  have hF := va_free (wc := [q0]) hD hS hA [wr.length] hC
  intro T hT X
  obtain ⟨v, st₀, t, T', Lc, h0, X', hL, e1, e2, ⟨⟨hv, W1, hW1, hPc, hKc, hDc⟩, hz, hk⟩, stp⟩ := hr T hT X
  have hv : v = rv := by injection hv
  subst hv
  rw [h0] at hz hk
  have hS1 : va_S A s.heap T'.heap (locs ++ Lc) := by
    refine ⟨Nat.le_trans hS.1 (by rw [e1]; exact hz), fun q h1 h2 => ?_, fun q hq => ?_⟩
    · rw [e1, hk q (Nat.lt_of_lt_of_le h1 hS.1) (fun z => h2 (hF q z))]
      exact hS.2.1 q h1 h2
    · rcases List.mem_append.mp hq with h | h
      · exact hS.2.2 q h
      · exact hF _ (hL q h)
  obtain ⟨hP2, hD2⟩ := va_join (wr := wr) (w1 := W1) (H1 := T'.heap) hP hD [wr.length] (List.range wr.length) hC hRr hnd (by intro i hi; rw [List.mem_range] at hi; simp; omega) (fun q h1 h2 => by rw [e1]; exact hk q h1 h2) hF (by rw [e1]; exact hPc) hDc
  obtain ⟨t2, a1, b1⟩ := kk W1 hW1 T'.heap (locs ++ Lc) ls hP2 hD2 hS1 hl T' rfl X'
  exact ⟨t2, stp t2 a1, b1⟩
theorem oa_preI {p : Program} {l : Launch} {e : Env} {R : Room} {s : State} {m : MethodId} {args : Array Value} {below : List Frame} {meth : Method} {c : Code} {H : Heap} {locs : List Loc} {av : List Value} {wr : va_W} {q0 : Nat × va_E} (C : oa_C (p, l, e, R, s, m, args, below, meth, c) cc nL own ret rm O A) (hP : va_P O.2.2.2.1 vwCl (wr ++ [q0]) H) (hD : va_D A (wr ++ [q0])) (hS : va_S A s.heap H locs) : ∀ U : State, U.heap = H → s.WarmedH U.vm → oa_PC O av [q0] H.size av.toArray U :=
  oa_pre (js := [wr.length]) C hP hD hS rfl (by simp)
theorem ww_callI {index ny : Nat} {y : MethodName} {cy : ByteArray} {rmy : Room} {b : Nat} {e0 : va_E} {wr : va_W} {Wf : va_W → Prop} (C : oa_C G cc nL own ret rm O A) (hY : oa_Y y cy ny none 0) (hin : Cond.instanceMethod y ∈ oa_gw) (hy1 : y.name = "<init>") (hlink : Cond.methodLink own index y ∈ oa_gw) (hM : oa_M G.2.1 y cy ny none rmy O [.ref b] [(b, e0)] none Wf) (hcs : cs.1 + rmy.cells ≤ rm.cells ∧ cs.2 + rmy.slots ≤ rm.slots) (hrm : rmy.frames + 1 ≤ rm.frames ∧ 8 + (ny + 11) + rmy.locals ≤ rm.locals) (hst : (rest.map fun v => v.category).sum ≤ 8) (hd : decode cc pc = .ok (.invokespecial index, 3)) (kk : ∀ W1, Wf W1 → ww G nL O A Q (cs.1 + rmy.cells, cs.2 + rmy.slots) (pc + 3) L rest (wr ++ W1)) : ww G nL O A Q cs pc L (.ref b :: rest) (wr ++ [(b, e0)]) := by
  obtain ⟨p, l, e, R, s, m, args, below, meth, c⟩ := G
  have C2 := C
  obtain ⟨hRm, hx, hb, hml, hown, hts, hr, hlk, hK, hA, hE⟩ := C
  subst hRm
  obtain ⟨y1, y2, y3, y4, y5⟩ := hY
  intro H locs ls hP hD hS hl
  exact oa_backI (rv := none) C2 hP hD hS hl (va_runI (As := []) ⟨hx, hb, hml, hown, hts⟩ (hM H.size) ⟨callB_of 0 hts (oa_sub y1) rfl rfl rfl (hts _ y2) (hts _ hlink) ⟨y3, y4, y5⟩ hrm, hy1, hts _ hin⟩ ⟨oa_blind, oa_preI C2 hP hD hS⟩ rfl rfl hl.1 rfl (lv_room hst) hd hcs) kk
theorem ww_callIN {index ny : Nat} {y : MethodName} {cy : ByteArray} {rmy : Room} {b : Nat} {e0 : va_E} {wr : va_W} {Wf : va_W → Prop} {ho : String} (C : oa_C G cc nL own ret rm O A) (hY : oa_Y y cy ny none 0) (hin : Cond.instanceMethod y ∈ oa_gw) (hy1 : y.name = "<init>") (hlink : Cond.methodLinkNest own index y ho ∈ oa_nest) (hM : oa_M G.2.1 y cy ny none rmy O [.ref b] [(b, e0)] none Wf) (hcs : cs.1 + rmy.cells ≤ rm.cells ∧ cs.2 + rmy.slots ≤ rm.slots) (hrm : rmy.frames + 1 ≤ rm.frames ∧ 8 + (ny + 11) + rmy.locals ≤ rm.locals) (hst : (rest.map fun v => v.category).sum ≤ 8) (hd : decode cc pc = .ok (.invokespecial index, 3)) (kk : ∀ W1, Wf W1 → ww G nL O A Q (cs.1 + rmy.cells, cs.2 + rmy.slots) (pc + 3) L rest (wr ++ W1)) : ww G nL O A Q cs pc L (.ref b :: rest) (wr ++ [(b, e0)]) := by
  obtain ⟨p, l, e, R, s, m, args, below, meth, c⟩ := G
  have C2 := C
  obtain ⟨hRm, hx, hb, hml, hown, hts, hr, hlk, hK, hA, hE⟩ := C
  subst hRm
  obtain ⟨y1, y2, y3, y4, y5⟩ := hY
  intro H locs ls hP hD hS hl
  exact oa_backI (rv := none) C2 hP hD hS hl (va_runIN (As := []) ⟨hx, hb, hml, hown, hts⟩ (hM H.size) ⟨va_cnB 0 hts (oa_sub y1) rfl rfl rfl (hE.2.2.2.2.2.1 _ hlink) (hts _ y2) ⟨y3, y4, y5⟩ hrm, hy1, hts _ hin⟩ ⟨oa_blind, oa_preI C2 hP hD hS⟩ rfl rfl hl.1 rfl (lv_room hst) hd hcs) kk
theorem oa_MofI {l : Launch} {y : MethodName} {cy : ByteArray} {ny : Nat} {av : List Value} {W0 : va_W} {rv : Option Value} {Wf : va_W → Prop} (hy : plainName y.cls = true) (hl : (lg_sl av).length ≤ ny) (h : ∀ (G : oa_G) (B : Nat → Prop), G.2.1 = l → G.2.2.2.2.2.2.2.2.1.name = y.name → oa_C G cy ny y.cls ret rm O B → ww G ny O B (oa_Q G O B (rm.cells, rm.slots) rv Wf) (0, 0) 0 (lv_args 0 av) [] W0) : oa_M l y cy ny ret rm O av W0 rv Wf := by
  intro sz
  refine Met.ofW (cc := cy) (maxL := ny) (ret := ret) hy rfl ?_
  intro p e s m args below meth c s₁ B hml hv
  obtain ⟨rfl, hsz, hP, hK, hD0, hE⟩ := hv
  have hts := atoms_spec (ws := .code y cy ny ret :: oa_gw) B.pre
  have hown : s.vm.findClass y.cls = some m.cls := findClass_of_methodNamed B.named
  subst hsz
  have hk := h (p, l, e, (headSpec (.code y cy ny ret :: oa_gw) rm).room, s, m, av.toArray, below, meth, c) (va_A W0 s.heap.size) rfl (name_of_methodNamed B.named B.method).1 ⟨rfl, B.exec, B.bytes, hml, hown, fun w hw => hts w (List.mem_cons_of_mem _ hw), B.returns, B.notSynchronized, hK, fun q hq => Or.inr hq, hE⟩
  rw [lg_entry_eq]
  exact hk s.heap [] _ hP hD0.self va_S.rf (lv_entry av hl)
/-- other order, other words for the same cells -/
theorem ww_perm {ws' : va_W} (C : oa_C G cc nL own ret rm O A) (js : List Nat) (hn : va_nd js = true) (hj : js.map (fun i => ws[i]?) = ws'.map some) (kk : ww G nL O A Q cs pc L rest ws') : ww G nL O A Q cs pc L rest ws := by
  obtain ⟨p, l, e, R, s, m, args, below, meth, c⟩ := G
  intro H locs ls hP hD hS hl
  exact kk H locs ls (fun j q h => by obtain ⟨i, -, hi⟩ := oa_map hj h; exact hP i q hi) (hD.sub js hn hj) hS hl
theorem ww_ws {ws' : va_W} (h : ws = ws') (kk : ww G nL O A Q cs pc L rest ws') : ww G nL O A Q cs pc L rest ws := h ▸ kk
theorem ww_aast {ws' : va_W} {a n i0 v t0 : Nat} {r : vw_C} {vs : List Value} {f g : Nat → Option Nat} {i : Int32} {ci : Nat} (C : oa_C G cc nL own ret rm O A) (q0 qk : Nat) (ha : ws[q0]? = some (a, .inl (oa_id O t0, n, .inr (.inr (.inr (.inr f)))))) (ht : (oa_tys O.2.2.2.2)[t0]? = some (oa_id O t0, .object r.1)) (hv : ws[qk]? = some (v, .inr (ci, vs))) (hc : vwCl[ci]? = some r) (hi : i = nI i0) (hn : i0 < n) (hn2 : n < 2 ^ 31) (hg : va_up f i0 (some v) = g) (hw : ws.set q0 (a, .inl (oa_id O t0, n, .inr (.inr (.inr (.inr g))))) = ws') (hd : decode cc pc = .ok (.aastore, 1)) (kk : ww G nL O A Q cs (pc + 1) L rest ws') : ww G nL O A Q cs pc L (.ref v :: .int i :: .ref a :: rest) ws := by
  obtain ⟨p, l, e, R, s, m, args, below, meth, c⟩ := G
  obtain ⟨hR, hx, hb, hml, hown, hts, hr, hlk, hK, hA, hE⟩ := C
  subst hi hg hw
  intro H locs ls hP hD hS hl
  refine va_astq hx hb hK hP hD hS q0 t0 qk ci ha ht hv hc (vp_in_nI hn hn2) hd (fun H1 locs1 hP1 hD1 hS1 => ?_)
  rw [nI_clamp (Nat.lt_trans hn hn2)] at hP1 hD1
  exact kk H1 locs1 ls hP1 hD1 hS1 hl
end OA
theorem oa_q2 (x y : Nat) : va_up (va_up (fun _ => none) 0 (some x)) 1 (some y) = fun k => if k = 0 then some x else if k = 1 then some y else none := by
  funext k
  simp only [va_up]
  split <;> split <;> first | rfl | omega
theorem oa_q4 (x y z w : Nat) : va_up (va_up (va_up (va_up (fun _ => none) 0 (some x)) 1 (some y)) 2 (some z)) 3 (some w) = fun k => if k = 0 then some x else if k = 1 then some y else if k = 2 then some z else if k = 3 then some w else none := by
  funext k
  simp only [va_up]
  repeat' split
  all_goals first | rfl | omega
