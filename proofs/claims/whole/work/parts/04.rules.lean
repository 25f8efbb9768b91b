/-! the layer ww: an instruction, a rule (printed by wip/whole/gen/mk_rules.py) -/
theorem ww_iconst {G : oa_G} {cc : ByteArray} {nL : Nat} {own : String} {ret : Option FieldType} {rm : Room} {O : oa_O} {A : Nat → Prop} {Q : State → Prop} {cs : Nat × Nat} {L : List (Nat × Value)} {rest : List Value} {ws : va_W} {pc : Nat} {n : Int} {v : Int32} (C : oa_C G cc nL own ret rm O A) (hd : decode cc pc = .ok (.iconst n, 1)) (hv : Int32.ofInt n = v) (k : ww G nL O A Q cs (pc + 1) L (.int v :: rest) ws) : ww G nL O A Q cs pc L rest ws := by
  obtain ⟨p, l, e, R, s, m, args, below, meth, c⟩ := G
  obtain ⟨hR, hx, hb, hml, hown, hts, hr, hlk, hK, hA, hE⟩ := C
  intro H locs ls hP hD hS hl
  exact lv_iconst hx hb hd hv (k H locs ls hP hD hS hl)
theorem ww_bipush {G : oa_G} {cc : ByteArray} {nL : Nat} {own : String} {ret : Option FieldType} {rm : Room} {O : oa_O} {A : Nat → Prop} {Q : State → Prop} {cs : Nat × Nat} {L : List (Nat × Value)} {rest : List Value} {ws : va_W} {pc : Nat} {n : Int} {v : Int32} (C : oa_C G cc nL own ret rm O A) (hd : decode cc pc = .ok (.bipush n, 2)) (hv : (Int8.ofInt n).toInt32 = v) (k : ww G nL O A Q cs (pc + 2) L (.int v :: rest) ws) : ww G nL O A Q cs pc L rest ws := by
  obtain ⟨p, l, e, R, s, m, args, below, meth, c⟩ := G
  obtain ⟨hR, hx, hb, hml, hown, hts, hr, hlk, hK, hA, hE⟩ := C
  intro H locs ls hP hD hS hl
  exact lv_bipush hx hb hd hv (k H locs ls hP hD hS hl)
theorem ww_sipush {G : oa_G} {cc : ByteArray} {nL : Nat} {own : String} {ret : Option FieldType} {rm : Room} {O : oa_O} {A : Nat → Prop} {Q : State → Prop} {cs : Nat × Nat} {L : List (Nat × Value)} {rest : List Value} {ws : va_W} {pc : Nat} {n : Int} {v : Int32} (C : oa_C G cc nL own ret rm O A) (hd : decode cc pc = .ok (.sipush n, 3)) (hv : (Int16.ofInt n).toInt32 = v) (k : ww G nL O A Q cs (pc + 3) L (.int v :: rest) ws) : ww G nL O A Q cs pc L rest ws := by
  obtain ⟨p, l, e, R, s, m, args, below, meth, c⟩ := G
  obtain ⟨hR, hx, hb, hml, hown, hts, hr, hlk, hK, hA, hE⟩ := C
  intro H locs ls hP hD hS hl
  exact lv_sipush hx hb hd hv (k H locs ls hP hD hS hl)
theorem ww_lconst {G : oa_G} {cc : ByteArray} {nL : Nat} {own : String} {ret : Option FieldType} {rm : Room} {O : oa_O} {A : Nat → Prop} {Q : State → Prop} {cs : Nat × Nat} {L : List (Nat × Value)} {rest : List Value} {ws : va_W} {pc : Nat} {n : Fin 2} {v : Int64} (C : oa_C G cc nL own ret rm O A) (hd : decode cc pc = .ok (.lconst n, 1)) (hv : Int64.ofNat (n : Nat) = v) (k : ww G nL O A Q cs (pc + 1) L (.long v :: rest) ws) : ww G nL O A Q cs pc L rest ws := by
  obtain ⟨p, l, e, R, s, m, args, below, meth, c⟩ := G
  obtain ⟨hR, hx, hb, hml, hown, hts, hr, hlk, hK, hA, hE⟩ := C
  intro H locs ls hP hD hS hl
  exact lv_lconst hx hb hd hv (k H locs ls hP hD hS hl)
theorem ww_iload_n {G : oa_G} {cc : ByteArray} {nL : Nat} {own : String} {ret : Option FieldType} {rm : Room} {O : oa_O} {A : Nat → Prop} {Q : State → Prop} {cs : Nat × Nat} {L : List (Nat × Value)} {rest : List Value} {ws : va_W} {pc : Nat} {kf : Fin 4} {i : Nat} {x : Int32} (C : oa_C G cc nL own ret rm O A) (j : Nat) (hd : decode cc pc = .ok (.iload_n kf, 1)) (hi : (kf : Nat) = i) (hj : L[j]? = some (i, .int x)) (k : ww G nL O A Q cs (pc + 1) L (.int x :: rest) ws) : ww G nL O A Q cs pc L rest ws := by
  obtain ⟨p, l, e, R, s, m, args, below, meth, c⟩ := G
  obtain ⟨hR, hx, hb, hml, hown, hts, hr, hlk, hK, hA, hE⟩ := C
  intro H locs ls hP hD hS hl
  exact lv_iload_n hx hb hd hi (lv_at hl j hj) (k H locs ls hP hD hS hl)
theorem ww_iload {G : oa_G} {cc : ByteArray} {nL : Nat} {own : String} {ret : Option FieldType} {rm : Room} {O : oa_O} {A : Nat → Prop} {Q : State → Prop} {cs : Nat × Nat} {L : List (Nat × Value)} {rest : List Value} {ws : va_W} {pc : Nat} {i : Nat} {x : Int32} (C : oa_C G cc nL own ret rm O A) (j : Nat) (hd : decode cc pc = .ok (.iload i, 2)) (hj : L[j]? = some (i, .int x)) (k : ww G nL O A Q cs (pc + 2) L (.int x :: rest) ws) : ww G nL O A Q cs pc L rest ws := by
  obtain ⟨p, l, e, R, s, m, args, below, meth, c⟩ := G
  obtain ⟨hR, hx, hb, hml, hown, hts, hr, hlk, hK, hA, hE⟩ := C
  intro H locs ls hP hD hS hl
  exact lv_iload hx hb hd (lv_at hl j hj) (k H locs ls hP hD hS hl)
theorem ww_istore_n {G : oa_G} {cc : ByteArray} {nL : Nat} {own : String} {ret : Option FieldType} {rm : Room} {O : oa_O} {A : Nat → Prop} {Q : State → Prop} {cs : Nat × Nat} {L : List (Nat × Value)} {rest : List Value} {ws : va_W} {pc : Nat} {kf : Fin 4} {i : Nat} {x : Int32} {L' : List (Nat × Value)} (C : oa_C G cc nL own ret rm O A) (ks : List Nat) (hd : decode cc pc = .ok (.istore_n kf, 1)) (hi : (kf : Nat) = i) (hn : i < nL) (hp : lv_pick ((i, Value.int x) :: L.filter (fun q => !(q.1 == i) && !(q.1 + 1 == i && q.2.category == 2))) ks = L') (k : ww G nL O A Q cs (pc + 1) L' rest ws) : ww G nL O A Q cs pc L (.int x :: rest) ws := by
  obtain ⟨p, l, e, R, s, m, args, below, meth, c⟩ := G
  obtain ⟨hR, hx, hb, hml, hown, hts, hr, hlk, hK, hA, hE⟩ := C
  intro H locs ls hP hD hS hl
  exact lv_istore_n hx hb hd hi hl hn rfl (fun ls' hl' => k H locs ls' hP hD hS (lv_sub hl' ks hp))
theorem ww_istore {G : oa_G} {cc : ByteArray} {nL : Nat} {own : String} {ret : Option FieldType} {rm : Room} {O : oa_O} {A : Nat → Prop} {Q : State → Prop} {cs : Nat × Nat} {L : List (Nat × Value)} {rest : List Value} {ws : va_W} {pc : Nat} {i : Nat} {x : Int32} {L' : List (Nat × Value)} (C : oa_C G cc nL own ret rm O A) (ks : List Nat) (hd : decode cc pc = .ok (.istore i, 2)) (hn : i < nL) (hp : lv_pick ((i, Value.int x) :: L.filter (fun q => !(q.1 == i) && !(q.1 + 1 == i && q.2.category == 2))) ks = L') (k : ww G nL O A Q cs (pc + 2) L' rest ws) : ww G nL O A Q cs pc L (.int x :: rest) ws := by
  obtain ⟨p, l, e, R, s, m, args, below, meth, c⟩ := G
  obtain ⟨hR, hx, hb, hml, hown, hts, hr, hlk, hK, hA, hE⟩ := C
  intro H locs ls hP hD hS hl
  exact lv_istore hx hb hd hl hn rfl (fun ls' hl' => k H locs ls' hP hD hS (lv_sub hl' ks hp))
theorem ww_lload_n {G : oa_G} {cc : ByteArray} {nL : Nat} {own : String} {ret : Option FieldType} {rm : Room} {O : oa_O} {A : Nat → Prop} {Q : State → Prop} {cs : Nat × Nat} {L : List (Nat × Value)} {rest : List Value} {ws : va_W} {pc : Nat} {kf : Fin 4} {i : Nat} {x : Int64} (C : oa_C G cc nL own ret rm O A) (j : Nat) (hd : decode cc pc = .ok (.lload_n kf, 1)) (hi : (kf : Nat) = i) (hj : L[j]? = some (i, .long x)) (k : ww G nL O A Q cs (pc + 1) L (.long x :: rest) ws) : ww G nL O A Q cs pc L rest ws := by
  obtain ⟨p, l, e, R, s, m, args, below, meth, c⟩ := G
  obtain ⟨hR, hx, hb, hml, hown, hts, hr, hlk, hK, hA, hE⟩ := C
  intro H locs ls hP hD hS hl
  exact lv_lload_n hx hb hd hi (lv_at hl j hj) (k H locs ls hP hD hS hl)
theorem ww_lload {G : oa_G} {cc : ByteArray} {nL : Nat} {own : String} {ret : Option FieldType} {rm : Room} {O : oa_O} {A : Nat → Prop} {Q : State → Prop} {cs : Nat × Nat} {L : List (Nat × Value)} {rest : List Value} {ws : va_W} {pc : Nat} {i : Nat} {x : Int64} (C : oa_C G cc nL own ret rm O A) (j : Nat) (hd : decode cc pc = .ok (.lload i, 2)) (hj : L[j]? = some (i, .long x)) (k : ww G nL O A Q cs (pc + 2) L (.long x :: rest) ws) : ww G nL O A Q cs pc L rest ws := by
  obtain ⟨p, l, e, R, s, m, args, below, meth, c⟩ := G
  obtain ⟨hR, hx, hb, hml, hown, hts, hr, hlk, hK, hA, hE⟩ := C
  intro H locs ls hP hD hS hl
  exact lv_lload hx hb hd (lv_at hl j hj) (k H locs ls hP hD hS hl)
theorem ww_lstore_n {G : oa_G} {cc : ByteArray} {nL : Nat} {own : String} {ret : Option FieldType} {rm : Room} {O : oa_O} {A : Nat → Prop} {Q : State → Prop} {cs : Nat × Nat} {L : List (Nat × Value)} {rest : List Value} {ws : va_W} {pc : Nat} {kf : Fin 4} {i : Nat} {x : Int64} {L' : List (Nat × Value)} (C : oa_C G cc nL own ret rm O A) (ks : List Nat) (hd : decode cc pc = .ok (.lstore_n kf, 1)) (hi : (kf : Nat) = i) (hn : i + 1 < nL) (hp : lv_pick ((i, Value.long x) :: L.filter (fun q => !(q.1 == i) && (!(q.1 == i + 1) && !(q.1 + 1 == i && q.2.category == 2)))) ks = L') (k : ww G nL O A Q cs (pc + 1) L' rest ws) : ww G nL O A Q cs pc L (.long x :: rest) ws := by
  obtain ⟨p, l, e, R, s, m, args, below, meth, c⟩ := G
  obtain ⟨hR, hx, hb, hml, hown, hts, hr, hlk, hK, hA, hE⟩ := C
  intro H locs ls hP hD hS hl
  exact lv_lstore_n hx hb hd hi hl hn rfl (fun ls' hl' => k H locs ls' hP hD hS (lv_sub hl' ks hp))
theorem ww_lstore {G : oa_G} {cc : ByteArray} {nL : Nat} {own : String} {ret : Option FieldType} {rm : Room} {O : oa_O} {A : Nat → Prop} {Q : State → Prop} {cs : Nat × Nat} {L : List (Nat × Value)} {rest : List Value} {ws : va_W} {pc : Nat} {i : Nat} {x : Int64} {L' : List (Nat × Value)} (C : oa_C G cc nL own ret rm O A) (ks : List Nat) (hd : decode cc pc = .ok (.lstore i, 2)) (hn : i + 1 < nL) (hp : lv_pick ((i, Value.long x) :: L.filter (fun q => !(q.1 == i) && (!(q.1 == i + 1) && !(q.1 + 1 == i && q.2.category == 2)))) ks = L') (k : ww G nL O A Q cs (pc + 2) L' rest ws) : ww G nL O A Q cs pc L (.long x :: rest) ws := by
  obtain ⟨p, l, e, R, s, m, args, below, meth, c⟩ := G
  obtain ⟨hR, hx, hb, hml, hown, hts, hr, hlk, hK, hA, hE⟩ := C
  intro H locs ls hP hD hS hl
  exact lv_lstore hx hb hd hl hn rfl (fun ls' hl' => k H locs ls' hP hD hS (lv_sub hl' ks hp))
theorem ww_aload_n {G : oa_G} {cc : ByteArray} {nL : Nat} {own : String} {ret : Option FieldType} {rm : Room} {O : oa_O} {A : Nat → Prop} {Q : State → Prop} {cs : Nat × Nat} {L : List (Nat × Value)} {rest : List Value} {ws : va_W} {pc : Nat} {kf : Fin 4} {i : Nat} {x : Nat} (C : oa_C G cc nL own ret rm O A) (j : Nat) (hd : decode cc pc = .ok (.aload_n kf, 1)) (hi : (kf : Nat) = i) (hj : L[j]? = some (i, .ref x)) (k : ww G nL O A Q cs (pc + 1) L (.ref x :: rest) ws) : ww G nL O A Q cs pc L rest ws := by
  obtain ⟨p, l, e, R, s, m, args, below, meth, c⟩ := G
  obtain ⟨hR, hx, hb, hml, hown, hts, hr, hlk, hK, hA, hE⟩ := C
  intro H locs ls hP hD hS hl
  exact lv_aload_n hx hb hd hi (lv_at hl j hj) (k H locs ls hP hD hS hl)
theorem ww_aload {G : oa_G} {cc : ByteArray} {nL : Nat} {own : String} {ret : Option FieldType} {rm : Room} {O : oa_O} {A : Nat → Prop} {Q : State → Prop} {cs : Nat × Nat} {L : List (Nat × Value)} {rest : List Value} {ws : va_W} {pc : Nat} {i : Nat} {x : Nat} (C : oa_C G cc nL own ret rm O A) (j : Nat) (hd : decode cc pc = .ok (.aload i, 2)) (hj : L[j]? = some (i, .ref x)) (k : ww G nL O A Q cs (pc + 2) L (.ref x :: rest) ws) : ww G nL O A Q cs pc L rest ws := by
  obtain ⟨p, l, e, R, s, m, args, below, meth, c⟩ := G
  obtain ⟨hR, hx, hb, hml, hown, hts, hr, hlk, hK, hA, hE⟩ := C
  intro H locs ls hP hD hS hl
  exact lv_aload hx hb hd (lv_at hl j hj) (k H locs ls hP hD hS hl)
theorem ww_astore_n {G : oa_G} {cc : ByteArray} {nL : Nat} {own : String} {ret : Option FieldType} {rm : Room} {O : oa_O} {A : Nat → Prop} {Q : State → Prop} {cs : Nat × Nat} {L : List (Nat × Value)} {rest : List Value} {ws : va_W} {pc : Nat} {kf : Fin 4} {i : Nat} {x : Nat} {L' : List (Nat × Value)} (C : oa_C G cc nL own ret rm O A) (ks : List Nat) (hd : decode cc pc = .ok (.astore_n kf, 1)) (hi : (kf : Nat) = i) (hn : i < nL) (hp : lv_pick ((i, Value.ref x) :: L.filter (fun q => !(q.1 == i) && !(q.1 + 1 == i && q.2.category == 2))) ks = L') (k : ww G nL O A Q cs (pc + 1) L' rest ws) : ww G nL O A Q cs pc L (.ref x :: rest) ws := by
  obtain ⟨p, l, e, R, s, m, args, below, meth, c⟩ := G
  obtain ⟨hR, hx, hb, hml, hown, hts, hr, hlk, hK, hA, hE⟩ := C
  intro H locs ls hP hD hS hl
  exact lv_astore_n hx hb hd hi hl hn rfl (fun ls' hl' => k H locs ls' hP hD hS (lv_sub hl' ks hp))
theorem ww_astore {G : oa_G} {cc : ByteArray} {nL : Nat} {own : String} {ret : Option FieldType} {rm : Room} {O : oa_O} {A : Nat → Prop} {Q : State → Prop} {cs : Nat × Nat} {L : List (Nat × Value)} {rest : List Value} {ws : va_W} {pc : Nat} {i : Nat} {x : Nat} {L' : List (Nat × Value)} (C : oa_C G cc nL own ret rm O A) (ks : List Nat) (hd : decode cc pc = .ok (.astore i, 2)) (hn : i < nL) (hp : lv_pick ((i, Value.ref x) :: L.filter (fun q => !(q.1 == i) && !(q.1 + 1 == i && q.2.category == 2))) ks = L') (k : ww G nL O A Q cs (pc + 2) L' rest ws) : ww G nL O A Q cs pc L (.ref x :: rest) ws := by
  obtain ⟨p, l, e, R, s, m, args, below, meth, c⟩ := G
  obtain ⟨hR, hx, hb, hml, hown, hts, hr, hlk, hK, hA, hE⟩ := C
  intro H locs ls hP hD hS hl
  exact lv_astore hx hb hd hl hn rfl (fun ls' hl' => k H locs ls' hP hD hS (lv_sub hl' ks hp))
theorem ww_iinc {G : oa_G} {cc : ByteArray} {nL : Nat} {own : String} {ret : Option FieldType} {rm : Room} {O : oa_O} {A : Nat → Prop} {Q : State → Prop} {cs : Nat × Nat} {L : List (Nat × Value)} {rest : List Value} {ws : va_W} {pc : Nat} {i : Nat} {n : Int} {x v : Int32} {L' : List (Nat × Value)} (C : oa_C G cc nL own ret rm O A) (j : Nat) (ks : List Nat) (hd : decode cc pc = .ok (.iinc i n, 3)) (hj : L[j]? = some (i, .int x)) (hv : x + Int32.ofInt n = v) (hn : i < nL) (hp : lv_pick ((i, Value.int v) :: L.filter (fun q => !(q.1 == i) && !(q.1 + 1 == i && q.2.category == 2))) ks = L') (k : ww G nL O A Q cs (pc + 3) L' rest ws) : ww G nL O A Q cs pc L rest ws := by
  obtain ⟨p, l, e, R, s, m, args, below, meth, c⟩ := G
  obtain ⟨hR, hx, hb, hml, hown, hts, hr, hlk, hK, hA, hE⟩ := C
  intro H locs ls hP hD hS hl
  exact lv_iinc hx hb hd hl hj hv hn rfl (fun ls' hl' => k H locs ls' hP hD hS (lv_sub hl' ks hp))
theorem ww_iadd {G : oa_G} {cc : ByteArray} {nL : Nat} {own : String} {ret : Option FieldType} {rm : Room} {O : oa_O} {A : Nat → Prop} {Q : State → Prop} {cs : Nat × Nat} {L : List (Nat × Value)} {rest : List Value} {ws : va_W} {pc : Nat} {x y : Int32} (C : oa_C G cc nL own ret rm O A) (hd : decode cc pc = .ok (.iadd, 1))  (k : ww G nL O A Q cs (pc + 1) L (.int (x + y) :: rest) ws) : ww G nL O A Q cs pc L (.int y :: .int x :: rest) ws := by
  obtain ⟨p, l, e, R, s, m, args, below, meth, c⟩ := G
  obtain ⟨hR, hx, hb, hml, hown, hts, hr, hlk, hK, hA, hE⟩ := C
  intro H locs ls hP hD hS hl
  exact lv_iadd hx hb hd  (k H locs ls hP hD hS hl)
theorem ww_isub {G : oa_G} {cc : ByteArray} {nL : Nat} {own : String} {ret : Option FieldType} {rm : Room} {O : oa_O} {A : Nat → Prop} {Q : State → Prop} {cs : Nat × Nat} {L : List (Nat × Value)} {rest : List Value} {ws : va_W} {pc : Nat} {x y : Int32} (C : oa_C G cc nL own ret rm O A) (hd : decode cc pc = .ok (.isub, 1))  (k : ww G nL O A Q cs (pc + 1) L (.int (x - y) :: rest) ws) : ww G nL O A Q cs pc L (.int y :: .int x :: rest) ws := by
  obtain ⟨p, l, e, R, s, m, args, below, meth, c⟩ := G
  obtain ⟨hR, hx, hb, hml, hown, hts, hr, hlk, hK, hA, hE⟩ := C
  intro H locs ls hP hD hS hl
  exact lv_isub hx hb hd  (k H locs ls hP hD hS hl)
theorem ww_imul {G : oa_G} {cc : ByteArray} {nL : Nat} {own : String} {ret : Option FieldType} {rm : Room} {O : oa_O} {A : Nat → Prop} {Q : State → Prop} {cs : Nat × Nat} {L : List (Nat × Value)} {rest : List Value} {ws : va_W} {pc : Nat} {x y : Int32} (C : oa_C G cc nL own ret rm O A) (hd : decode cc pc = .ok (.imul, 1))  (k : ww G nL O A Q cs (pc + 1) L (.int (x * y) :: rest) ws) : ww G nL O A Q cs pc L (.int y :: .int x :: rest) ws := by
  obtain ⟨p, l, e, R, s, m, args, below, meth, c⟩ := G
  obtain ⟨hR, hx, hb, hml, hown, hts, hr, hlk, hK, hA, hE⟩ := C
  intro H locs ls hP hD hS hl
  exact lv_imul hx hb hd  (k H locs ls hP hD hS hl)
theorem ww_iand {G : oa_G} {cc : ByteArray} {nL : Nat} {own : String} {ret : Option FieldType} {rm : Room} {O : oa_O} {A : Nat → Prop} {Q : State → Prop} {cs : Nat × Nat} {L : List (Nat × Value)} {rest : List Value} {ws : va_W} {pc : Nat} {x y : Int32} (C : oa_C G cc nL own ret rm O A) (hd : decode cc pc = .ok (.iand, 1))  (k : ww G nL O A Q cs (pc + 1) L (.int (x &&& y) :: rest) ws) : ww G nL O A Q cs pc L (.int y :: .int x :: rest) ws := by
  obtain ⟨p, l, e, R, s, m, args, below, meth, c⟩ := G
  obtain ⟨hR, hx, hb, hml, hown, hts, hr, hlk, hK, hA, hE⟩ := C
  intro H locs ls hP hD hS hl
  exact lv_iand hx hb hd  (k H locs ls hP hD hS hl)
theorem ww_ior {G : oa_G} {cc : ByteArray} {nL : Nat} {own : String} {ret : Option FieldType} {rm : Room} {O : oa_O} {A : Nat → Prop} {Q : State → Prop} {cs : Nat × Nat} {L : List (Nat × Value)} {rest : List Value} {ws : va_W} {pc : Nat} {x y : Int32} (C : oa_C G cc nL own ret rm O A) (hd : decode cc pc = .ok (.ior, 1))  (k : ww G nL O A Q cs (pc + 1) L (.int (x ||| y) :: rest) ws) : ww G nL O A Q cs pc L (.int y :: .int x :: rest) ws := by
  obtain ⟨p, l, e, R, s, m, args, below, meth, c⟩ := G
  obtain ⟨hR, hx, hb, hml, hown, hts, hr, hlk, hK, hA, hE⟩ := C
  intro H locs ls hP hD hS hl
  exact lv_ior hx hb hd  (k H locs ls hP hD hS hl)
theorem ww_ixor {G : oa_G} {cc : ByteArray} {nL : Nat} {own : String} {ret : Option FieldType} {rm : Room} {O : oa_O} {A : Nat → Prop} {Q : State → Prop} {cs : Nat × Nat} {L : List (Nat × Value)} {rest : List Value} {ws : va_W} {pc : Nat} {x y : Int32} (C : oa_C G cc nL own ret rm O A) (hd : decode cc pc = .ok (.ixor, 1))  (k : ww G nL O A Q cs (pc + 1) L (.int (x ^^^ y) :: rest) ws) : ww G nL O A Q cs pc L (.int y :: .int x :: rest) ws := by
  obtain ⟨p, l, e, R, s, m, args, below, meth, c⟩ := G
  obtain ⟨hR, hx, hb, hml, hown, hts, hr, hlk, hK, hA, hE⟩ := C
  intro H locs ls hP hD hS hl
  exact lv_ixor hx hb hd  (k H locs ls hP hD hS hl)
theorem ww_ladd {G : oa_G} {cc : ByteArray} {nL : Nat} {own : String} {ret : Option FieldType} {rm : Room} {O : oa_O} {A : Nat → Prop} {Q : State → Prop} {cs : Nat × Nat} {L : List (Nat × Value)} {rest : List Value} {ws : va_W} {pc : Nat} {x y : Int64} (C : oa_C G cc nL own ret rm O A) (hd : decode cc pc = .ok (.ladd, 1))  (k : ww G nL O A Q cs (pc + 1) L (.long (x + y) :: rest) ws) : ww G nL O A Q cs pc L (.long y :: .long x :: rest) ws := by
  obtain ⟨p, l, e, R, s, m, args, below, meth, c⟩ := G
  obtain ⟨hR, hx, hb, hml, hown, hts, hr, hlk, hK, hA, hE⟩ := C
  intro H locs ls hP hD hS hl
  exact lv_ladd hx hb hd  (k H locs ls hP hD hS hl)
theorem ww_lsub {G : oa_G} {cc : ByteArray} {nL : Nat} {own : String} {ret : Option FieldType} {rm : Room} {O : oa_O} {A : Nat → Prop} {Q : State → Prop} {cs : Nat × Nat} {L : List (Nat × Value)} {rest : List Value} {ws : va_W} {pc : Nat} {x y : Int64} (C : oa_C G cc nL own ret rm O A) (hd : decode cc pc = .ok (.lsub, 1))  (k : ww G nL O A Q cs (pc + 1) L (.long (x - y) :: rest) ws) : ww G nL O A Q cs pc L (.long y :: .long x :: rest) ws := by
  obtain ⟨p, l, e, R, s, m, args, below, meth, c⟩ := G
  obtain ⟨hR, hx, hb, hml, hown, hts, hr, hlk, hK, hA, hE⟩ := C
  intro H locs ls hP hD hS hl
  exact lv_lsub hx hb hd  (k H locs ls hP hD hS hl)
theorem ww_lmul {G : oa_G} {cc : ByteArray} {nL : Nat} {own : String} {ret : Option FieldType} {rm : Room} {O : oa_O} {A : Nat → Prop} {Q : State → Prop} {cs : Nat × Nat} {L : List (Nat × Value)} {rest : List Value} {ws : va_W} {pc : Nat} {x y : Int64} (C : oa_C G cc nL own ret rm O A) (hd : decode cc pc = .ok (.lmul, 1))  (k : ww G nL O A Q cs (pc + 1) L (.long (x * y) :: rest) ws) : ww G nL O A Q cs pc L (.long y :: .long x :: rest) ws := by
  obtain ⟨p, l, e, R, s, m, args, below, meth, c⟩ := G
  obtain ⟨hR, hx, hb, hml, hown, hts, hr, hlk, hK, hA, hE⟩ := C
  intro H locs ls hP hD hS hl
  exact lv_lmul hx hb hd  (k H locs ls hP hD hS hl)
theorem ww_land {G : oa_G} {cc : ByteArray} {nL : Nat} {own : String} {ret : Option FieldType} {rm : Room} {O : oa_O} {A : Nat → Prop} {Q : State → Prop} {cs : Nat × Nat} {L : List (Nat × Value)} {rest : List Value} {ws : va_W} {pc : Nat} {x y : Int64} (C : oa_C G cc nL own ret rm O A) (hd : decode cc pc = .ok (.land, 1))  (k : ww G nL O A Q cs (pc + 1) L (.long (x &&& y) :: rest) ws) : ww G nL O A Q cs pc L (.long y :: .long x :: rest) ws := by
  obtain ⟨p, l, e, R, s, m, args, below, meth, c⟩ := G
  obtain ⟨hR, hx, hb, hml, hown, hts, hr, hlk, hK, hA, hE⟩ := C
  intro H locs ls hP hD hS hl
  exact lv_land hx hb hd  (k H locs ls hP hD hS hl)
theorem ww_lor {G : oa_G} {cc : ByteArray} {nL : Nat} {own : String} {ret : Option FieldType} {rm : Room} {O : oa_O} {A : Nat → Prop} {Q : State → Prop} {cs : Nat × Nat} {L : List (Nat × Value)} {rest : List Value} {ws : va_W} {pc : Nat} {x y : Int64} (C : oa_C G cc nL own ret rm O A) (hd : decode cc pc = .ok (.lor, 1))  (k : ww G nL O A Q cs (pc + 1) L (.long (x ||| y) :: rest) ws) : ww G nL O A Q cs pc L (.long y :: .long x :: rest) ws := by
  obtain ⟨p, l, e, R, s, m, args, below, meth, c⟩ := G
  obtain ⟨hR, hx, hb, hml, hown, hts, hr, hlk, hK, hA, hE⟩ := C
  intro H locs ls hP hD hS hl
  exact lv_lor hx hb hd  (k H locs ls hP hD hS hl)
theorem ww_lxor {G : oa_G} {cc : ByteArray} {nL : Nat} {own : String} {ret : Option FieldType} {rm : Room} {O : oa_O} {A : Nat → Prop} {Q : State → Prop} {cs : Nat × Nat} {L : List (Nat × Value)} {rest : List Value} {ws : va_W} {pc : Nat} {x y : Int64} (C : oa_C G cc nL own ret rm O A) (hd : decode cc pc = .ok (.lxor, 1))  (k : ww G nL O A Q cs (pc + 1) L (.long (x ^^^ y) :: rest) ws) : ww G nL O A Q cs pc L (.long y :: .long x :: rest) ws := by
  obtain ⟨p, l, e, R, s, m, args, below, meth, c⟩ := G
  obtain ⟨hR, hx, hb, hml, hown, hts, hr, hlk, hK, hA, hE⟩ := C
  intro H locs ls hP hD hS hl
  exact lv_lxor hx hb hd  (k H locs ls hP hD hS hl)
theorem ww_irem {G : oa_G} {cc : ByteArray} {nL : Nat} {own : String} {ret : Option FieldType} {rm : Room} {O : oa_O} {A : Nat → Prop} {Q : State → Prop} {cs : Nat × Nat} {L : List (Nat × Value)} {rest : List Value} {ws : va_W} {pc : Nat} {x y : Int32} (C : oa_C G cc nL own ret rm O A) (hd : decode cc pc = .ok (.irem, 1)) (hne : ¬ y = 0) (k : ww G nL O A Q cs (pc + 1) L (.int (x - x / y * y) :: rest) ws) : ww G nL O A Q cs pc L (.int y :: .int x :: rest) ws := by
  obtain ⟨p, l, e, R, s, m, args, below, meth, c⟩ := G
  obtain ⟨hR, hx, hb, hml, hown, hts, hr, hlk, hK, hA, hE⟩ := C
  intro H locs ls hP hD hS hl
  exact lv_irem hx hb hd hne (k H locs ls hP hD hS hl)
theorem ww_ldiv {G : oa_G} {cc : ByteArray} {nL : Nat} {own : String} {ret : Option FieldType} {rm : Room} {O : oa_O} {A : Nat → Prop} {Q : State → Prop} {cs : Nat × Nat} {L : List (Nat × Value)} {rest : List Value} {ws : va_W} {pc : Nat} {x y : Int64} (C : oa_C G cc nL own ret rm O A) (hd : decode cc pc = .ok (.ldiv, 1)) (hne : ¬ y = 0) (k : ww G nL O A Q cs (pc + 1) L (.long (x / y) :: rest) ws) : ww G nL O A Q cs pc L (.long y :: .long x :: rest) ws := by
  obtain ⟨p, l, e, R, s, m, args, below, meth, c⟩ := G
  obtain ⟨hR, hx, hb, hml, hown, hts, hr, hlk, hK, hA, hE⟩ := C
  intro H locs ls hP hD hS hl
  exact lv_ldiv hx hb hd hne (k H locs ls hP hD hS hl)
theorem ww_lrem {G : oa_G} {cc : ByteArray} {nL : Nat} {own : String} {ret : Option FieldType} {rm : Room} {O : oa_O} {A : Nat → Prop} {Q : State → Prop} {cs : Nat × Nat} {L : List (Nat × Value)} {rest : List Value} {ws : va_W} {pc : Nat} {x y : Int64} (C : oa_C G cc nL own ret rm O A) (hd : decode cc pc = .ok (.lrem, 1)) (hne : ¬ y = 0) (k : ww G nL O A Q cs (pc + 1) L (.long (x - x / y * y) :: rest) ws) : ww G nL O A Q cs pc L (.long y :: .long x :: rest) ws := by
  obtain ⟨p, l, e, R, s, m, args, below, meth, c⟩ := G
  obtain ⟨hR, hx, hb, hml, hown, hts, hr, hlk, hK, hA, hE⟩ := C
  intro H locs ls hP hD hS hl
  exact lv_lrem hx hb hd hne (k H locs ls hP hD hS hl)
theorem ww_ineg {G : oa_G} {cc : ByteArray} {nL : Nat} {own : String} {ret : Option FieldType} {rm : Room} {O : oa_O} {A : Nat → Prop} {Q : State → Prop} {cs : Nat × Nat} {L : List (Nat × Value)} {rest : List Value} {ws : va_W} {pc : Nat} {x : Int32} (C : oa_C G cc nL own ret rm O A) (hd : decode cc pc = .ok (.ineg, 1))  (k : ww G nL O A Q cs (pc + 1) L (.int (-x) :: rest) ws) : ww G nL O A Q cs pc L (.int x :: rest) ws := by
  obtain ⟨p, l, e, R, s, m, args, below, meth, c⟩ := G
  obtain ⟨hR, hx, hb, hml, hown, hts, hr, hlk, hK, hA, hE⟩ := C
  intro H locs ls hP hD hS hl
  exact lv_ineg hx hb hd  (k H locs ls hP hD hS hl)
theorem ww_lneg {G : oa_G} {cc : ByteArray} {nL : Nat} {own : String} {ret : Option FieldType} {rm : Room} {O : oa_O} {A : Nat → Prop} {Q : State → Prop} {cs : Nat × Nat} {L : List (Nat × Value)} {rest : List Value} {ws : va_W} {pc : Nat} {x : Int64} (C : oa_C G cc nL own ret rm O A) (hd : decode cc pc = .ok (.lneg, 1))  (k : ww G nL O A Q cs (pc + 1) L (.long (-x) :: rest) ws) : ww G nL O A Q cs pc L (.long x :: rest) ws := by
  obtain ⟨p, l, e, R, s, m, args, below, meth, c⟩ := G
  obtain ⟨hR, hx, hb, hml, hown, hts, hr, hlk, hK, hA, hE⟩ := C
  intro H locs ls hP hD hS hl
  exact lv_lneg hx hb hd  (k H locs ls hP hD hS hl)
theorem ww_ishl {G : oa_G} {cc : ByteArray} {nL : Nat} {own : String} {ret : Option FieldType} {rm : Room} {O : oa_O} {A : Nat → Prop} {Q : State → Prop} {cs : Nat × Nat} {L : List (Nat × Value)} {rest : List Value} {ws : va_W} {pc : Nat} {x y : Int32} (C : oa_C G cc nL own ret rm O A) (hd : decode cc pc = .ok (.ishl, 1))  (k : ww G nL O A Q cs (pc + 1) L (.int (x <<< (y &&& 31)) :: rest) ws) : ww G nL O A Q cs pc L (.int y :: .int x :: rest) ws := by
  obtain ⟨p, l, e, R, s, m, args, below, meth, c⟩ := G
  obtain ⟨hR, hx, hb, hml, hown, hts, hr, hlk, hK, hA, hE⟩ := C
  intro H locs ls hP hD hS hl
  exact lv_ishl hx hb hd  (k H locs ls hP hD hS hl)
theorem ww_ishr {G : oa_G} {cc : ByteArray} {nL : Nat} {own : String} {ret : Option FieldType} {rm : Room} {O : oa_O} {A : Nat → Prop} {Q : State → Prop} {cs : Nat × Nat} {L : List (Nat × Value)} {rest : List Value} {ws : va_W} {pc : Nat} {x y : Int32} (C : oa_C G cc nL own ret rm O A) (hd : decode cc pc = .ok (.ishr, 1))  (k : ww G nL O A Q cs (pc + 1) L (.int (x >>> (y &&& 31)) :: rest) ws) : ww G nL O A Q cs pc L (.int y :: .int x :: rest) ws := by
  obtain ⟨p, l, e, R, s, m, args, below, meth, c⟩ := G
  obtain ⟨hR, hx, hb, hml, hown, hts, hr, hlk, hK, hA, hE⟩ := C
  intro H locs ls hP hD hS hl
  exact lv_ishr hx hb hd  (k H locs ls hP hD hS hl)
theorem ww_iushr {G : oa_G} {cc : ByteArray} {nL : Nat} {own : String} {ret : Option FieldType} {rm : Room} {O : oa_O} {A : Nat → Prop} {Q : State → Prop} {cs : Nat × Nat} {L : List (Nat × Value)} {rest : List Value} {ws : va_W} {pc : Nat} {x y : Int32} (C : oa_C G cc nL own ret rm O A) (hd : decode cc pc = .ok (.iushr, 1))  (k : ww G nL O A Q cs (pc + 1) L (.int (x.toUInt32 >>> (y.toUInt32 &&& Int32.toUInt32 31)).toInt32 :: rest) ws) : ww G nL O A Q cs pc L (.int y :: .int x :: rest) ws := by
  obtain ⟨p, l, e, R, s, m, args, below, meth, c⟩ := G
  obtain ⟨hR, hx, hb, hml, hown, hts, hr, hlk, hK, hA, hE⟩ := C
  intro H locs ls hP hD hS hl
  exact lv_iushr hx hb hd rfl (k H locs ls hP hD hS hl)
theorem ww_lushr {G : oa_G} {cc : ByteArray} {nL : Nat} {own : String} {ret : Option FieldType} {rm : Room} {O : oa_O} {A : Nat → Prop} {Q : State → Prop} {cs : Nat × Nat} {L : List (Nat × Value)} {rest : List Value} {ws : va_W} {pc : Nat} {x : Int64} {y : Int32} (C : oa_C G cc nL own ret rm O A) (hd : decode cc pc = .ok (.lushr, 1))  (k : ww G nL O A Q cs (pc + 1) L (.long (x.toUInt64 >>> (y.toInt64.toUInt64 &&& Int64.toUInt64 63)).toInt64 :: rest) ws) : ww G nL O A Q cs pc L (.int y :: .long x :: rest) ws := by
  obtain ⟨p, l, e, R, s, m, args, below, meth, c⟩ := G
  obtain ⟨hR, hx, hb, hml, hown, hts, hr, hlk, hK, hA, hE⟩ := C
  intro H locs ls hP hD hS hl
  exact lv_lushr hx hb hd rfl (k H locs ls hP hD hS hl)
theorem ww_lshl {G : oa_G} {cc : ByteArray} {nL : Nat} {own : String} {ret : Option FieldType} {rm : Room} {O : oa_O} {A : Nat → Prop} {Q : State → Prop} {cs : Nat × Nat} {L : List (Nat × Value)} {rest : List Value} {ws : va_W} {pc : Nat} {x : Int64} {y : Int32} (C : oa_C G cc nL own ret rm O A) (hd : decode cc pc = .ok (.lshl, 1))  (k : ww G nL O A Q cs (pc + 1) L (.long (x <<< (y.toInt64 &&& 63)) :: rest) ws) : ww G nL O A Q cs pc L (.int y :: .long x :: rest) ws := by
  obtain ⟨p, l, e, R, s, m, args, below, meth, c⟩ := G
  obtain ⟨hR, hx, hb, hml, hown, hts, hr, hlk, hK, hA, hE⟩ := C
  intro H locs ls hP hD hS hl
  exact lv_lshl hx hb hd rfl (k H locs ls hP hD hS hl)
theorem ww_lshr {G : oa_G} {cc : ByteArray} {nL : Nat} {own : String} {ret : Option FieldType} {rm : Room} {O : oa_O} {A : Nat → Prop} {Q : State → Prop} {cs : Nat × Nat} {L : List (Nat × Value)} {rest : List Value} {ws : va_W} {pc : Nat} {x : Int64} {y : Int32} (C : oa_C G cc nL own ret rm O A) (hd : decode cc pc = .ok (.lshr, 1))  (k : ww G nL O A Q cs (pc + 1) L (.long (x >>> (y.toInt64 &&& 63)) :: rest) ws) : ww G nL O A Q cs pc L (.int y :: .long x :: rest) ws := by
  obtain ⟨p, l, e, R, s, m, args, below, meth, c⟩ := G
  obtain ⟨hR, hx, hb, hml, hown, hts, hr, hlk, hK, hA, hE⟩ := C
  intro H locs ls hP hD hS hl
  exact lv_lshr hx hb hd rfl (k H locs ls hP hD hS hl)
theorem ww_i2l {G : oa_G} {cc : ByteArray} {nL : Nat} {own : String} {ret : Option FieldType} {rm : Room} {O : oa_O} {A : Nat → Prop} {Q : State → Prop} {cs : Nat × Nat} {L : List (Nat × Value)} {rest : List Value} {ws : va_W} {pc : Nat} {x : Int32} (C : oa_C G cc nL own ret rm O A) (hd : decode cc pc = .ok (.i2l, 1))  (k : ww G nL O A Q cs (pc + 1) L (.long x.toInt64 :: rest) ws) : ww G nL O A Q cs pc L (.int x :: rest) ws := by
  obtain ⟨p, l, e, R, s, m, args, below, meth, c⟩ := G
  obtain ⟨hR, hx, hb, hml, hown, hts, hr, hlk, hK, hA, hE⟩ := C
  intro H locs ls hP hD hS hl
  exact lv_i2l hx hb hd rfl (k H locs ls hP hD hS hl)
theorem ww_l2i {G : oa_G} {cc : ByteArray} {nL : Nat} {own : String} {ret : Option FieldType} {rm : Room} {O : oa_O} {A : Nat → Prop} {Q : State → Prop} {cs : Nat × Nat} {L : List (Nat × Value)} {rest : List Value} {ws : va_W} {pc : Nat} {x : Int64} (C : oa_C G cc nL own ret rm O A) (hd : decode cc pc = .ok (.l2i, 1))  (k : ww G nL O A Q cs (pc + 1) L (.int x.toInt32 :: rest) ws) : ww G nL O A Q cs pc L (.long x :: rest) ws := by
  obtain ⟨p, l, e, R, s, m, args, below, meth, c⟩ := G
  obtain ⟨hR, hx, hb, hml, hown, hts, hr, hlk, hK, hA, hE⟩ := C
  intro H locs ls hP hD hS hl
  exact lv_l2i hx hb hd rfl (k H locs ls hP hD hS hl)
theorem ww_i2b {G : oa_G} {cc : ByteArray} {nL : Nat} {own : String} {ret : Option FieldType} {rm : Room} {O : oa_O} {A : Nat → Prop} {Q : State → Prop} {cs : Nat × Nat} {L : List (Nat × Value)} {rest : List Value} {ws : va_W} {pc : Nat} {x : Int32} (C : oa_C G cc nL own ret rm O A) (hd : decode cc pc = .ok (.i2b, 1))  (k : ww G nL O A Q cs (pc + 1) L (.int x.toInt8.toInt32 :: rest) ws) : ww G nL O A Q cs pc L (.int x :: rest) ws := by
  obtain ⟨p, l, e, R, s, m, args, below, meth, c⟩ := G
  obtain ⟨hR, hx, hb, hml, hown, hts, hr, hlk, hK, hA, hE⟩ := C
  intro H locs ls hP hD hS hl
  exact lv_i2b hx hb hd rfl (k H locs ls hP hD hS hl)
theorem ww_i2s {G : oa_G} {cc : ByteArray} {nL : Nat} {own : String} {ret : Option FieldType} {rm : Room} {O : oa_O} {A : Nat → Prop} {Q : State → Prop} {cs : Nat × Nat} {L : List (Nat × Value)} {rest : List Value} {ws : va_W} {pc : Nat} {x : Int32} (C : oa_C G cc nL own ret rm O A) (hd : decode cc pc = .ok (.i2s, 1))  (k : ww G nL O A Q cs (pc + 1) L (.int x.toInt16.toInt32 :: rest) ws) : ww G nL O A Q cs pc L (.int x :: rest) ws := by
  obtain ⟨p, l, e, R, s, m, args, below, meth, c⟩ := G
  obtain ⟨hR, hx, hb, hml, hown, hts, hr, hlk, hK, hA, hE⟩ := C
  intro H locs ls hP hD hS hl
  exact lv_i2s hx hb hd rfl (k H locs ls hP hD hS hl)
theorem ww_lcmp {G : oa_G} {cc : ByteArray} {nL : Nat} {own : String} {ret : Option FieldType} {rm : Room} {O : oa_O} {A : Nat → Prop} {Q : State → Prop} {cs : Nat × Nat} {L : List (Nat × Value)} {rest : List Value} {ws : va_W} {pc : Nat} {x y : Int64} (C : oa_C G cc nL own ret rm O A) (hd : decode cc pc = .ok (.lcmp, 1)) (k : ww G nL O A Q cs (pc + 1) L (.int (lg_cmp x y) :: rest) ws) : ww G nL O A Q cs pc L (.long y :: .long x :: rest) ws := by
  obtain ⟨p, l, e, R, s, m, args, below, meth, c⟩ := G
  obtain ⟨hR, hx, hb, hml, hown, hts, hr, hlk, hK, hA, hE⟩ := C
  intro H locs ls hP hD hS hl
  exact W.lcmp hx hb hd (k H locs ls hP hD hS hl)
theorem ww_dup {G : oa_G} {cc : ByteArray} {nL : Nat} {own : String} {ret : Option FieldType} {rm : Room} {O : oa_O} {A : Nat → Prop} {Q : State → Prop} {cs : Nat × Nat} {L : List (Nat × Value)} {rest : List Value} {ws : va_W} {pc : Nat} {va : Value} (C : oa_C G cc nL own ret rm O A) (hd : decode cc pc = .ok (.dup, 1)) (hv : va.category = 1) (k : ww G nL O A Q cs (pc + 1) L (va :: va :: rest) ws) : ww G nL O A Q cs pc L (va :: rest) ws := by
  obtain ⟨p, l, e, R, s, m, args, below, meth, c⟩ := G
  obtain ⟨hR, hx, hb, hml, hown, hts, hr, hlk, hK, hA, hE⟩ := C
  intro H locs ls hP hD hS hl
  exact lv_dup hx hb hd hv (k H locs ls hP hD hS hl)
theorem ww_pop {G : oa_G} {cc : ByteArray} {nL : Nat} {own : String} {ret : Option FieldType} {rm : Room} {O : oa_O} {A : Nat → Prop} {Q : State → Prop} {cs : Nat × Nat} {L : List (Nat × Value)} {rest : List Value} {ws : va_W} {pc : Nat} {va : Value} (C : oa_C G cc nL own ret rm O A) (hd : decode cc pc = .ok (.pop, 1)) (hv : va.category = 1) (k : ww G nL O A Q cs (pc + 1) L rest ws) : ww G nL O A Q cs pc L (va :: rest) ws := by
  obtain ⟨p, l, e, R, s, m, args, below, meth, c⟩ := G
  obtain ⟨hR, hx, hb, hml, hown, hts, hr, hlk, hK, hA, hE⟩ := C
  intro H locs ls hP hD hS hl
  exact lv_pop hx hb hd hv (k H locs ls hP hD hS hl)
theorem ww_dup_x1 {G : oa_G} {cc : ByteArray} {nL : Nat} {own : String} {ret : Option FieldType} {rm : Room} {O : oa_O} {A : Nat → Prop} {Q : State → Prop} {cs : Nat × Nat} {L : List (Nat × Value)} {rest : List Value} {ws : va_W} {pc : Nat} {va vb : Value} (C : oa_C G cc nL own ret rm O A) (hd : decode cc pc = .ok (.dup_x1, 1)) (hv : va.category = 1) (hv2 : vb.category = 1) (k : ww G nL O A Q cs (pc + 1) L (va :: vb :: va :: rest) ws) : ww G nL O A Q cs pc L (va :: vb :: rest) ws := by
  obtain ⟨p, l, e, R, s, m, args, below, meth, c⟩ := G
  obtain ⟨hR, hx, hb, hml, hown, hts, hr, hlk, hK, hA, hE⟩ := C
  intro H locs ls hP hD hS hl
  exact lv_dup_x1 hx hb hd hv hv2 (k H locs ls hP hD hS hl)
theorem ww_dup2 {G : oa_G} {cc : ByteArray} {nL : Nat} {own : String} {ret : Option FieldType} {rm : Room} {O : oa_O} {A : Nat → Prop} {Q : State → Prop} {cs : Nat × Nat} {L : List (Nat × Value)} {rest : List Value} {ws : va_W} {pc : Nat} {va vb : Value} (C : oa_C G cc nL own ret rm O A) (hd : decode cc pc = .ok (.dup2, 1)) (hv : va.category = 1) (hv2 : vb.category = 1) (k : ww G nL O A Q cs (pc + 1) L (va :: vb :: va :: vb :: rest) ws) : ww G nL O A Q cs pc L (va :: vb :: rest) ws := by
  obtain ⟨p, l, e, R, s, m, args, below, meth, c⟩ := G
  obtain ⟨hR, hx, hb, hml, hown, hts, hr, hlk, hK, hA, hE⟩ := C
  intro H locs ls hP hD hS hl
  exact lv_dup2_11 hx hb hd hv hv2 (k H locs ls hP hD hS hl)
theorem ww_if_eq {G : oa_G} {cc : ByteArray} {nL : Nat} {own : String} {ret : Option FieldType} {rm : Room} {O : oa_O} {A : Nat → Prop} {Q : State → Prop} {cs : Nat × Nat} {L : List (Nat × Value)} {rest : List Value} {ws : va_W} {pc : Nat} {x : Int32} {off : Int} {tgt : Nat} (C : oa_C G cc nL own ret rm O A) (hd : decode cc pc = .ok (.ifCond .eq off, 3)) (ht : (pc : Int) + off = (tgt : Int)) (kt : x = 0 → ww G nL O A Q cs tgt L rest ws) (kf : ¬ x = 0 → ww G nL O A Q cs (pc + 3) L rest ws) : ww G nL O A Q cs pc L (.int x :: rest) ws := by
  obtain ⟨p, l, e, R, s, m, args, below, meth, c⟩ := G
  obtain ⟨hR, hx, hb, hml, hown, hts, hr, hlk, hK, hA, hE⟩ := C
  intro H locs ls hP hD hS hl
  exact lv_if_eq hx hb hd ht (fun h => kt h H locs ls hP hD hS hl) (fun h => kf h H locs ls hP hD hS hl)
theorem ww_icmp_eq {G : oa_G} {cc : ByteArray} {nL : Nat} {own : String} {ret : Option FieldType} {rm : Room} {O : oa_O} {A : Nat → Prop} {Q : State → Prop} {cs : Nat × Nat} {L : List (Nat × Value)} {rest : List Value} {ws : va_W} {pc : Nat} {x y : Int32} {off : Int} {tgt : Nat} (C : oa_C G cc nL own ret rm O A) (hd : decode cc pc = .ok (.if_icmp .eq off, 3)) (ht : (pc : Int) + off = (tgt : Int)) (kt : x = y → ww G nL O A Q cs tgt L rest ws) (kf : ¬ x = y → ww G nL O A Q cs (pc + 3) L rest ws) : ww G nL O A Q cs pc L (.int y :: .int x :: rest) ws := by
  obtain ⟨p, l, e, R, s, m, args, below, meth, c⟩ := G
  obtain ⟨hR, hx, hb, hml, hown, hts, hr, hlk, hK, hA, hE⟩ := C
  intro H locs ls hP hD hS hl
  exact lv_icmp_eq hx hb hd ht (fun h => kt h H locs ls hP hD hS hl) (fun h => kf h H locs ls hP hD hS hl)
theorem ww_if_ne {G : oa_G} {cc : ByteArray} {nL : Nat} {own : String} {ret : Option FieldType} {rm : Room} {O : oa_O} {A : Nat → Prop} {Q : State → Prop} {cs : Nat × Nat} {L : List (Nat × Value)} {rest : List Value} {ws : va_W} {pc : Nat} {x : Int32} {off : Int} {tgt : Nat} (C : oa_C G cc nL own ret rm O A) (hd : decode cc pc = .ok (.ifCond .ne off, 3)) (ht : (pc : Int) + off = (tgt : Int)) (kt : ¬ x = 0 → ww G nL O A Q cs tgt L rest ws) (kf : x = 0 → ww G nL O A Q cs (pc + 3) L rest ws) : ww G nL O A Q cs pc L (.int x :: rest) ws := by
  obtain ⟨p, l, e, R, s, m, args, below, meth, c⟩ := G
  obtain ⟨hR, hx, hb, hml, hown, hts, hr, hlk, hK, hA, hE⟩ := C
  intro H locs ls hP hD hS hl
  exact lv_if_ne hx hb hd ht (fun h => kt h H locs ls hP hD hS hl) (fun h => kf h H locs ls hP hD hS hl)
theorem ww_icmp_ne {G : oa_G} {cc : ByteArray} {nL : Nat} {own : String} {ret : Option FieldType} {rm : Room} {O : oa_O} {A : Nat → Prop} {Q : State → Prop} {cs : Nat × Nat} {L : List (Nat × Value)} {rest : List Value} {ws : va_W} {pc : Nat} {x y : Int32} {off : Int} {tgt : Nat} (C : oa_C G cc nL own ret rm O A) (hd : decode cc pc = .ok (.if_icmp .ne off, 3)) (ht : (pc : Int) + off = (tgt : Int)) (kt : ¬ x = y → ww G nL O A Q cs tgt L rest ws) (kf : x = y → ww G nL O A Q cs (pc + 3) L rest ws) : ww G nL O A Q cs pc L (.int y :: .int x :: rest) ws := by
  obtain ⟨p, l, e, R, s, m, args, below, meth, c⟩ := G
  obtain ⟨hR, hx, hb, hml, hown, hts, hr, hlk, hK, hA, hE⟩ := C
  intro H locs ls hP hD hS hl
  exact lv_icmp_ne hx hb hd ht (fun h => kt h H locs ls hP hD hS hl) (fun h => kf h H locs ls hP hD hS hl)
theorem ww_if_lt {G : oa_G} {cc : ByteArray} {nL : Nat} {own : String} {ret : Option FieldType} {rm : Room} {O : oa_O} {A : Nat → Prop} {Q : State → Prop} {cs : Nat × Nat} {L : List (Nat × Value)} {rest : List Value} {ws : va_W} {pc : Nat} {x : Int32} {off : Int} {tgt : Nat} (C : oa_C G cc nL own ret rm O A) (hd : decode cc pc = .ok (.ifCond .lt off, 3)) (ht : (pc : Int) + off = (tgt : Int)) (kt : x < 0 → ww G nL O A Q cs tgt L rest ws) (kf : ¬ x < 0 → ww G nL O A Q cs (pc + 3) L rest ws) : ww G nL O A Q cs pc L (.int x :: rest) ws := by
  obtain ⟨p, l, e, R, s, m, args, below, meth, c⟩ := G
  obtain ⟨hR, hx, hb, hml, hown, hts, hr, hlk, hK, hA, hE⟩ := C
  intro H locs ls hP hD hS hl
  exact lv_if_lt hx hb hd ht (fun h => kt h H locs ls hP hD hS hl) (fun h => kf h H locs ls hP hD hS hl)
theorem ww_icmp_lt {G : oa_G} {cc : ByteArray} {nL : Nat} {own : String} {ret : Option FieldType} {rm : Room} {O : oa_O} {A : Nat → Prop} {Q : State → Prop} {cs : Nat × Nat} {L : List (Nat × Value)} {rest : List Value} {ws : va_W} {pc : Nat} {x y : Int32} {off : Int} {tgt : Nat} (C : oa_C G cc nL own ret rm O A) (hd : decode cc pc = .ok (.if_icmp .lt off, 3)) (ht : (pc : Int) + off = (tgt : Int)) (kt : x < y → ww G nL O A Q cs tgt L rest ws) (kf : ¬ x < y → ww G nL O A Q cs (pc + 3) L rest ws) : ww G nL O A Q cs pc L (.int y :: .int x :: rest) ws := by
  obtain ⟨p, l, e, R, s, m, args, below, meth, c⟩ := G
  obtain ⟨hR, hx, hb, hml, hown, hts, hr, hlk, hK, hA, hE⟩ := C
  intro H locs ls hP hD hS hl
  exact lv_icmp_lt hx hb hd ht (fun h => kt h H locs ls hP hD hS hl) (fun h => kf h H locs ls hP hD hS hl)
theorem ww_if_ge {G : oa_G} {cc : ByteArray} {nL : Nat} {own : String} {ret : Option FieldType} {rm : Room} {O : oa_O} {A : Nat → Prop} {Q : State → Prop} {cs : Nat × Nat} {L : List (Nat × Value)} {rest : List Value} {ws : va_W} {pc : Nat} {x : Int32} {off : Int} {tgt : Nat} (C : oa_C G cc nL own ret rm O A) (hd : decode cc pc = .ok (.ifCond .ge off, 3)) (ht : (pc : Int) + off = (tgt : Int)) (kt : 0 ≤ x → ww G nL O A Q cs tgt L rest ws) (kf : ¬ 0 ≤ x → ww G nL O A Q cs (pc + 3) L rest ws) : ww G nL O A Q cs pc L (.int x :: rest) ws := by
  obtain ⟨p, l, e, R, s, m, args, below, meth, c⟩ := G
  obtain ⟨hR, hx, hb, hml, hown, hts, hr, hlk, hK, hA, hE⟩ := C
  intro H locs ls hP hD hS hl
  exact lv_if_ge hx hb hd ht (fun h => kt h H locs ls hP hD hS hl) (fun h => kf h H locs ls hP hD hS hl)
theorem ww_icmp_ge {G : oa_G} {cc : ByteArray} {nL : Nat} {own : String} {ret : Option FieldType} {rm : Room} {O : oa_O} {A : Nat → Prop} {Q : State → Prop} {cs : Nat × Nat} {L : List (Nat × Value)} {rest : List Value} {ws : va_W} {pc : Nat} {x y : Int32} {off : Int} {tgt : Nat} (C : oa_C G cc nL own ret rm O A) (hd : decode cc pc = .ok (.if_icmp .ge off, 3)) (ht : (pc : Int) + off = (tgt : Int)) (kt : y ≤ x → ww G nL O A Q cs tgt L rest ws) (kf : ¬ y ≤ x → ww G nL O A Q cs (pc + 3) L rest ws) : ww G nL O A Q cs pc L (.int y :: .int x :: rest) ws := by
  obtain ⟨p, l, e, R, s, m, args, below, meth, c⟩ := G
  obtain ⟨hR, hx, hb, hml, hown, hts, hr, hlk, hK, hA, hE⟩ := C
  intro H locs ls hP hD hS hl
  exact lv_icmp_ge hx hb hd ht (fun h => kt h H locs ls hP hD hS hl) (fun h => kf h H locs ls hP hD hS hl)
theorem ww_if_gt {G : oa_G} {cc : ByteArray} {nL : Nat} {own : String} {ret : Option FieldType} {rm : Room} {O : oa_O} {A : Nat → Prop} {Q : State → Prop} {cs : Nat × Nat} {L : List (Nat × Value)} {rest : List Value} {ws : va_W} {pc : Nat} {x : Int32} {off : Int} {tgt : Nat} (C : oa_C G cc nL own ret rm O A) (hd : decode cc pc = .ok (.ifCond .gt off, 3)) (ht : (pc : Int) + off = (tgt : Int)) (kt : 0 < x → ww G nL O A Q cs tgt L rest ws) (kf : ¬ 0 < x → ww G nL O A Q cs (pc + 3) L rest ws) : ww G nL O A Q cs pc L (.int x :: rest) ws := by
  obtain ⟨p, l, e, R, s, m, args, below, meth, c⟩ := G
  obtain ⟨hR, hx, hb, hml, hown, hts, hr, hlk, hK, hA, hE⟩ := C
  intro H locs ls hP hD hS hl
  exact lv_if_gt hx hb hd ht (fun h => kt h H locs ls hP hD hS hl) (fun h => kf h H locs ls hP hD hS hl)
theorem ww_icmp_gt {G : oa_G} {cc : ByteArray} {nL : Nat} {own : String} {ret : Option FieldType} {rm : Room} {O : oa_O} {A : Nat → Prop} {Q : State → Prop} {cs : Nat × Nat} {L : List (Nat × Value)} {rest : List Value} {ws : va_W} {pc : Nat} {x y : Int32} {off : Int} {tgt : Nat} (C : oa_C G cc nL own ret rm O A) (hd : decode cc pc = .ok (.if_icmp .gt off, 3)) (ht : (pc : Int) + off = (tgt : Int)) (kt : y < x → ww G nL O A Q cs tgt L rest ws) (kf : ¬ y < x → ww G nL O A Q cs (pc + 3) L rest ws) : ww G nL O A Q cs pc L (.int y :: .int x :: rest) ws := by
  obtain ⟨p, l, e, R, s, m, args, below, meth, c⟩ := G
  obtain ⟨hR, hx, hb, hml, hown, hts, hr, hlk, hK, hA, hE⟩ := C
  intro H locs ls hP hD hS hl
  exact lv_icmp_gt hx hb hd ht (fun h => kt h H locs ls hP hD hS hl) (fun h => kf h H locs ls hP hD hS hl)
theorem ww_if_le {G : oa_G} {cc : ByteArray} {nL : Nat} {own : String} {ret : Option FieldType} {rm : Room} {O : oa_O} {A : Nat → Prop} {Q : State → Prop} {cs : Nat × Nat} {L : List (Nat × Value)} {rest : List Value} {ws : va_W} {pc : Nat} {x : Int32} {off : Int} {tgt : Nat} (C : oa_C G cc nL own ret rm O A) (hd : decode cc pc = .ok (.ifCond .le off, 3)) (ht : (pc : Int) + off = (tgt : Int)) (kt : x ≤ 0 → ww G nL O A Q cs tgt L rest ws) (kf : ¬ x ≤ 0 → ww G nL O A Q cs (pc + 3) L rest ws) : ww G nL O A Q cs pc L (.int x :: rest) ws := by
  obtain ⟨p, l, e, R, s, m, args, below, meth, c⟩ := G
  obtain ⟨hR, hx, hb, hml, hown, hts, hr, hlk, hK, hA, hE⟩ := C
  intro H locs ls hP hD hS hl
  exact lv_if_le hx hb hd ht (fun h => kt h H locs ls hP hD hS hl) (fun h => kf h H locs ls hP hD hS hl)
theorem ww_icmp_le {G : oa_G} {cc : ByteArray} {nL : Nat} {own : String} {ret : Option FieldType} {rm : Room} {O : oa_O} {A : Nat → Prop} {Q : State → Prop} {cs : Nat × Nat} {L : List (Nat × Value)} {rest : List Value} {ws : va_W} {pc : Nat} {x y : Int32} {off : Int} {tgt : Nat} (C : oa_C G cc nL own ret rm O A) (hd : decode cc pc = .ok (.if_icmp .le off, 3)) (ht : (pc : Int) + off = (tgt : Int)) (kt : x ≤ y → ww G nL O A Q cs tgt L rest ws) (kf : ¬ x ≤ y → ww G nL O A Q cs (pc + 3) L rest ws) : ww G nL O A Q cs pc L (.int y :: .int x :: rest) ws := by
  obtain ⟨p, l, e, R, s, m, args, below, meth, c⟩ := G
  obtain ⟨hR, hx, hb, hml, hown, hts, hr, hlk, hK, hA, hE⟩ := C
  intro H locs ls hP hD hS hl
  exact lv_icmp_le hx hb hd ht (fun h => kt h H locs ls hP hD hS hl) (fun h => kf h H locs ls hP hD hS hl)
theorem ww_goto {G : oa_G} {cc : ByteArray} {nL : Nat} {own : String} {ret : Option FieldType} {rm : Room} {O : oa_O} {A : Nat → Prop} {Q : State → Prop} {cs : Nat × Nat} {L : List (Nat × Value)} {rest : List Value} {ws : va_W} {pc : Nat} {off : Int} {tgt : Nat} (C : oa_C G cc nL own ret rm O A) (hd : decode cc pc = .ok (.goto off, 3)) (ht : (pc : Int) + off = (tgt : Int)) (k : ww G nL O A Q cs tgt L rest ws) : ww G nL O A Q cs pc L rest ws := by
  obtain ⟨p, l, e, R, s, m, args, below, meth, c⟩ := G
  obtain ⟨hR, hx, hb, hml, hown, hts, hr, hlk, hK, hA, hE⟩ := C
  intro H locs ls hP hD hS hl
  exact lv_goto hx hb hd ht (k H locs ls hP hD hS hl)
theorem ww_sub {G : oa_G} {cc : ByteArray} {nL : Nat} {own : String} {ret : Option FieldType} {rm : Room} {O : oa_O} {A : Nat → Prop} {Q : State → Prop} {cs : Nat × Nat} {L : List (Nat × Value)} {rest : List Value} {ws : va_W} {pc : Nat} {L' : List (Nat × Value)} (C : oa_C G cc nL own ret rm O A) (ks : List Nat) (hp : lv_pick L ks = L') (k : ww G nL O A Q cs pc L' rest ws) : ww G nL O A Q cs pc L rest ws := by
  obtain ⟨p, l, e, R, s, m, args, below, meth, c⟩ := G
  obtain ⟨hR, hx, hb, hml, hown, hts, hr, hlk, hK, hA, hE⟩ := C
  intro H locs ls hP hD hS hl
  exact k H locs ls hP hD hS (lv_sub hl ks hp)
theorem ww_ldc {G : oa_G} {cc : ByteArray} {nL : Nat} {own : String} {ret : Option FieldType} {rm : Room} {O : oa_O} {A : Nat → Prop} {Q : State → Prop} {cs : Nat × Nat} {L : List (Nat × Value)} {rest : List Value} {ws : va_W} {pc : Nat} {index : Nat} {v : Int32} (C : oa_C G cc nL own ret rm O A) (hw : Cond.constant own index v ∈ oa_gw) (hd : decode cc pc = .ok (.ldc index, 2)) (k : ww G nL O A Q cs (pc + 2) L (.int v :: rest) ws) : ww G nL O A Q cs pc L rest ws := by
  obtain ⟨p, l, e, R, s, m, args, below, meth, c⟩ := G
  obtain ⟨hR, hx, hb, hml, hown, hts, hr, hlk, hK, hA, hE⟩ := C
  intro H locs ls hP hD hS hl
  exact lv_ldc hx hb hown (hts _ hw) hd (k H locs ls hP hD hS hl)
theorem ww_ldcw {G : oa_G} {cc : ByteArray} {nL : Nat} {own : String} {ret : Option FieldType} {rm : Room} {O : oa_O} {A : Nat → Prop} {Q : State → Prop} {cs : Nat × Nat} {L : List (Nat × Value)} {rest : List Value} {ws : va_W} {pc : Nat} {index : Nat} {v : Int32} (C : oa_C G cc nL own ret rm O A) (hw : Cond.constant own index v ∈ oa_gw) (hd : decode cc pc = .ok (.ldc_w index, 3)) (k : ww G nL O A Q cs (pc + 3) L (.int v :: rest) ws) : ww G nL O A Q cs pc L rest ws := by
  obtain ⟨p, l, e, R, s, m, args, below, meth, c⟩ := G
  obtain ⟨hR, hx, hb, hml, hown, hts, hr, hlk, hK, hA, hE⟩ := C
  intro H locs ls hP hD hS hl
  exact lv_ldcw hx hb hown (hts _ hw) hd (k H locs ls hP hD hS hl)
theorem ww_ldc2 {G : oa_G} {cc : ByteArray} {nL : Nat} {own : String} {ret : Option FieldType} {rm : Room} {O : oa_O} {A : Nat → Prop} {Q : State → Prop} {cs : Nat × Nat} {L : List (Nat × Value)} {rest : List Value} {ws : va_W} {pc : Nat} {index : Nat} {v : Int64} (C : oa_C G cc nL own ret rm O A) (hw : Cond.constantLong own index v ∈ oa_gw) (hd : decode cc pc = .ok (.ldc2_w index, 3)) (k : ww G nL O A Q cs (pc + 3) L (.long v :: rest) ws) : ww G nL O A Q cs pc L rest ws := by
  obtain ⟨p, l, e, R, s, m, args, below, meth, c⟩ := G
  obtain ⟨hR, hx, hb, hml, hown, hts, hr, hlk, hK, hA, hE⟩ := C
  intro H locs ls hP hD hS hl
  exact lv_ldc2 hx hb hown (hts _ hw) hd (k H locs ls hP hD hS hl)
theorem ww_topi {G : oa_G} {cc : ByteArray} {nL : Nat} {own : String} {ret : Option FieldType} {rm : Room} {O : oa_O} {A : Nat → Prop} {Q : State → Prop} {cs : Nat × Nat} {L : List (Nat × Value)} {rest : List Value} {ws : va_W} {pc : Nat} {x y : Int32} (C : oa_C G cc nL own ret rm O A) (h : y = x) (k : ww G nL O A Q cs pc L (.int y :: rest) ws) : ww G nL O A Q cs pc L (.int x :: rest) ws := by
  obtain ⟨p, l, e, R, s, m, args, below, meth, c⟩ := G
  obtain ⟨hR, hx, hb, hml, hown, hts, hr, hlk, hK, hA, hE⟩ := C
  intro H locs ls hP hD hS hl
  subst h; exact k H locs ls hP hD hS hl
theorem ww_topl {G : oa_G} {cc : ByteArray} {nL : Nat} {own : String} {ret : Option FieldType} {rm : Room} {O : oa_O} {A : Nat → Prop} {Q : State → Prop} {cs : Nat × Nat} {L : List (Nat × Value)} {rest : List Value} {ws : va_W} {pc : Nat} {x y : Int64} (C : oa_C G cc nL own ret rm O A) (h : y = x) (k : ww G nL O A Q cs pc L (.long y :: rest) ws) : ww G nL O A Q cs pc L (.long x :: rest) ws := by
  obtain ⟨p, l, e, R, s, m, args, below, meth, c⟩ := G
  obtain ⟨hR, hx, hb, hml, hown, hts, hr, hlk, hK, hA, hE⟩ := C
  intro H locs ls hP hD hS hl
  subst h; exact k H locs ls hP hD hS hl
theorem ww_tabO {G : oa_G} {cc : ByteArray} {nL : Nat} {own : String} {ret : Option FieldType} {rm : Room} {O : oa_O} {A : Nat → Prop} {Q : State → Prop} {cs : Nat × Nat} {L : List (Nat × Value)} {rest : List Value} {ws : va_W} {pc : Nat} {dflt lo hi : Int} {offs : Array Int} {len : Nat} {x : Int32} {tgt : Nat} (C : oa_C G cc nL own ret rm O A) (hd : decode cc pc = .ok (.tableswitch dflt lo hi offs, len)) (h : x.toInt < lo ∨ hi < x.toInt) (ht : (pc : Int) + dflt = (tgt : Int)) (k : ww G nL O A Q cs tgt L rest ws) : ww G nL O A Q cs pc L (.int x :: rest) ws := by
  obtain ⟨p, l, e, R, s, m, args, below, meth, c⟩ := G
  obtain ⟨hR, hx, hb, hml, hown, hts, hr, hlk, hK, hA, hE⟩ := C
  intro H locs ls hP hD hS hl
  exact lv_tableOut hx hb hd h ht (k H locs ls hP hD hS hl)
theorem ww_tabI {G : oa_G} {cc : ByteArray} {nL : Nat} {own : String} {ret : Option FieldType} {rm : Room} {O : oa_O} {A : Nat → Prop} {Q : State → Prop} {cs : Nat × Nat} {L : List (Nat × Value)} {rest : List Value} {ws : va_W} {pc : Nat} {dflt lo hi : Int} {offs : Array Int} {len : Nat} {x : Int32} {off : Int} {tgt : Nat} (C : oa_C G cc nL own ret rm O A) (hd : decode cc pc = .ok (.tableswitch dflt lo hi offs, len)) (h1 : ¬ x.toInt < lo) (h2 : ¬ hi < x.toInt) (ho : offs[(x.toInt - lo).toNat]? = some off) (ht : (pc : Int) + off = (tgt : Int)) (k : ww G nL O A Q cs tgt L rest ws) : ww G nL O A Q cs pc L (.int x :: rest) ws := by
  obtain ⟨p, l, e, R, s, m, args, below, meth, c⟩ := G
  obtain ⟨hR, hx, hb, hml, hown, hts, hr, hlk, hK, hA, hE⟩ := C
  intro H locs ls hP hD hS hl
  exact lv_tableIn hx hb hd h1 h2 ho ht (k H locs ls hP hD hS hl)
theorem ww_look {G : oa_G} {cc : ByteArray} {nL : Nat} {own : String} {ret : Option FieldType} {rm : Room} {O : oa_O} {A : Nat → Prop} {Q : State → Prop} {cs : Nat × Nat} {L : List (Nat × Value)} {rest : List Value} {ws : va_W} {pc : Nat} {dflt : Int} {ps : Array (Int × Int)} {len : Nat} {x : Int32} {off : Int} {tgt : Nat} (C : oa_C G cc nL own ret rm O A) (hd : decode cc pc = .ok (.lookupswitch dflt ps, len)) (hp : (ps.toList.zip (ps.toList.drop 1)).all (fun (a, next) => a.1 < next.1) = true) (ho : Op.lookupswitch.offset ps.toList dflt x.toInt = off) (ht : (pc : Int) + off = (tgt : Int)) (k : ww G nL O A Q cs tgt L rest ws) : ww G nL O A Q cs pc L (.int x :: rest) ws := by
  obtain ⟨p, l, e, R, s, m, args, below, meth, c⟩ := G
  obtain ⟨hR, hx, hb, hml, hown, hts, hr, hlk, hK, hA, hE⟩ := C
  intro H locs ls hP hD hS hl
  exact lv_lookup hx hb hd hp ho ht (k H locs ls hP hD hS hl)
