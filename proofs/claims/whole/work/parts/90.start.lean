theorem lk_L_9 : Cond.methodLink RL 9 yX6_init ∈ oa_gw := oa_at 82 (by decide +kernel) rfl
theorem hY_X6_init : oa_Y yX6_init cX6_init 2 none 0 := ⟨oa_at 84 (by decide +kernel) rfl, oa_at 63 (by decide +kernel) rfl, by decide, by decide, by decide +kernel⟩
theorem hi_X6_init : Cond.instanceMethod yX6_init ∈ oa_gw := oa_at 83 (by decide +kernel) rfl
theorem lk_L_12 : Cond.methodLink RL 12 yX7_init ∈ oa_gw := oa_at 893 (by decide +kernel) rfl
theorem hY_X7_init : oa_Y yX7_init cX7_init 1 none 0 := ⟨oa_at 895 (by decide +kernel) rfl, oa_at 72 (by decide +kernel) rfl, by decide, by decide, by decide +kernel⟩
theorem hi_X7_init : Cond.instanceMethod yX7_init ∈ oa_gw := oa_at 894 (by decide +kernel) rfl
theorem nw_L_7 : oa_N RL 7 6 11 tyX6 := ⟨RX6, TX6, rfl, ic_X6, tyX6_ok, oa_at 80 (by decide +kernel) rfl, oa_at 81 (by decide +kernel) rfl, oa_at 63 (by decide +kernel) rfl⟩
theorem df_X6 : ∀ j, j < 11 → defaultValue (tyX6 j) = vp_V [.null, .null, .null, .null, .null, .null, .null, .null, .null, .int 0, .int 0] j := by decide +kernel
theorem nw_L_10 : oa_N RL 10 7 27 tyX7 := ⟨RX7, TX7, rfl, ic_X7, tyX7_ok, oa_at 891 (by decide +kernel) rfl, oa_at 892 (by decide +kernel) rfl, oa_at 72 (by decide +kernel) rfl⟩
theorem df_X7 : ∀ j, j < 27 → defaultValue (tyX7 j) = vp_V [.null, .null, .null, .null, .null, .int 0, .int 0, .int 0, .int 0, .int 0, .int 0, .int 0, .int 0, .null, .null, .int 0, .int 0, .null, .null, .null, .long 0, .long 0, .null, .null, .null, .null, .int 0] j := by decide +kernel
/-! the law's start: tables, environment, the two objects; then the claim -/
noncomputable def l_law (xs : Nat → Int32) (Ls : Nat) (n : Nat) (B : oa_I3) (J : oa_J2) (M : oa_I2) (K : oa_J2) (x3 : Int32) : Option Int32 :=
  oa_fix (fun k => oa_u fun (B : oa_I3) => oa_u fun (J : oa_J2) => oa_u fun (M : oa_I2) => oa_u fun (K : oa_J2) (x3 : Int32) => b_law xs Ls (fun B J M K x3 => k (B, J, M, K, x3)) B J M K x3) n (B, J, M, K, x3)
theorem t_l_law {G : oa_G} {O : oa_O} {A : Nat → Prop} {Q : State → Prop} {cs : Nat × Nat} {a c : Nat → Nat} {b : Nat} (C : oa_C G cL_law 4 RL (some .boolean) room_1 O A) (hcs : cs.1 ≤ room_1.cells ∧ cs.2 ≤ room_1.slots) {xs : Nat → Int32} {Ls : Nat} (hsc : oa_scr G A b Ls xs) (hend : ∀ (L : List (Nat × Value)) (ws : va_W), ww G 4 O A Q cs 1321 L [.int 1] ws) : ∀ (n : Nat) (B : oa_I3) (J : oa_J2) (M : oa_I2) (K : oa_J2) (x3 : Int32), l_law xs Ls n B J M K x3 = some 1 → ww G 4 O A Q cs 18 [(0, .ref b), (1, .ref (a 0)), (2, .ref (c 0)), (3, .int x3)] [] (wd_L O a c B J M K) := by
  intro n
  induction n with
  | zero => intro B J M K x3 hf; exact absurd (show (none : Option Int32) = some 1 from hf) (fun h => nomatch h)
  | succ n ih =>
    intro B J M K x3 hf
    exact t_b_law C hcs hsc hend (fun B J M K x3 => l_law xs Ls n B J M K x3) (fun B J M K x3 h => ih B J M K x3 h) B J M K x3 hf
theorem oa_gwt {w : Cond} (h : w ∈ oa_gw) : w ∈ lw_tbl := (List.mem_filter.mp h).1
theorem oa_nestT : ∀ w ∈ oa_nest, w ∈ lw_tbl := by decide +kernel
theorem oa_nestO : ∀ w ∈ oa_nest, w.onTables = true := by decide +kernel
def oa_tm (i : Nat) : Term := .string "OneAnger$Text" (oa_six.getD i 0)
theorem oa_m0 : ∀ i, i < 13 → Cond.stringRef "OneAnger$Text" (oa_six.getD i 0) (oa_stx.getD i "") ∈ lw_tbl := by decide +kernel
theorem oa_m1 : ∀ i, i < 13 → Cond.exactly (oa_tm i) "java/lang/String" ∈ flatC (Jvm.Cond.and given_1 narrow_1) := by decide +kernel
theorem oa_m2 : ∀ i, i < 13 → Cond.eq (.field (oa_tm i) "java/lang/String" "coder" "B") (.int 0) ∈ flatC (Jvm.Cond.and given_1 narrow_1) := by decide +kernel
theorem oa_m3 : ∀ i, i < 13 → Cond.arrayOf (.field (oa_tm i) "java/lang/String" "value" "[B") .byte ∈ flatC (Jvm.Cond.and given_1 narrow_1) := by decide +kernel
theorem oa_m4 : ∀ i, i < 13 → Cond.eq (.length (.field (oa_tm i) "java/lang/String" "value" "[B")) (.int (Int32.ofNat (oa_len.getD i 0))) ∈ flatC (Jvm.Cond.and given_1 narrow_1) := by decide +kernel
theorem oa_m5 : ∀ i, i < 13 → ∀ j, j < oa_len.getD i 0 → Cond.eq (.elem (.field (oa_tm i) "java/lang/String" "value" "[B") (.int (Int32.ofNat j))) (.int ((oa_byt.getD i []).getD j 0)) ∈ flatC (Jvm.Cond.and given_1 narrow_1) := by decide +kernel
theorem oa_m6_0 : ∀ j, j < 13 → 0 < j → Cond.not (Cond.eq (oa_tm 0) (oa_tm j)) ∈ flatC (Jvm.Cond.and given_1 narrow_1) := by decide +kernel
theorem oa_m6_1 : ∀ j, j < 13 → 1 < j → Cond.not (Cond.eq (oa_tm 1) (oa_tm j)) ∈ flatC (Jvm.Cond.and given_1 narrow_1) := by decide +kernel
theorem oa_m6_2 : ∀ j, j < 13 → 2 < j → Cond.not (Cond.eq (oa_tm 2) (oa_tm j)) ∈ flatC (Jvm.Cond.and given_1 narrow_1) := by decide +kernel
theorem oa_m6_3 : ∀ j, j < 13 → 3 < j → Cond.not (Cond.eq (oa_tm 3) (oa_tm j)) ∈ flatC (Jvm.Cond.and given_1 narrow_1) := by decide +kernel
theorem oa_m6_4 : ∀ j, j < 13 → 4 < j → Cond.not (Cond.eq (oa_tm 4) (oa_tm j)) ∈ flatC (Jvm.Cond.and given_1 narrow_1) := by decide +kernel
theorem oa_m6_5 : ∀ j, j < 13 → 5 < j → Cond.not (Cond.eq (oa_tm 5) (oa_tm j)) ∈ flatC (Jvm.Cond.and given_1 narrow_1) := by decide +kernel
theorem oa_m6_6 : ∀ j, j < 13 → 6 < j → Cond.not (Cond.eq (oa_tm 6) (oa_tm j)) ∈ flatC (Jvm.Cond.and given_1 narrow_1) := by decide +kernel
theorem oa_m6_7 : ∀ j, j < 13 → 7 < j → Cond.not (Cond.eq (oa_tm 7) (oa_tm j)) ∈ flatC (Jvm.Cond.and given_1 narrow_1) := by decide +kernel
theorem oa_m6_8 : ∀ j, j < 13 → 8 < j → Cond.not (Cond.eq (oa_tm 8) (oa_tm j)) ∈ flatC (Jvm.Cond.and given_1 narrow_1) := by decide +kernel
theorem oa_m6_9 : ∀ j, j < 13 → 9 < j → Cond.not (Cond.eq (oa_tm 9) (oa_tm j)) ∈ flatC (Jvm.Cond.and given_1 narrow_1) := by decide +kernel
theorem oa_m6_10 : ∀ j, j < 13 → 10 < j → Cond.not (Cond.eq (oa_tm 10) (oa_tm j)) ∈ flatC (Jvm.Cond.and given_1 narrow_1) := by decide +kernel
theorem oa_m6_11 : ∀ j, j < 13 → 11 < j → Cond.not (Cond.eq (oa_tm 11) (oa_tm j)) ∈ flatC (Jvm.Cond.and given_1 narrow_1) := by decide +kernel
theorem oa_m6_12 : ∀ j, j < 13 → 12 < j → Cond.not (Cond.eq (oa_tm 12) (oa_tm j)) ∈ flatC (Jvm.Cond.and given_1 narrow_1) := by decide +kernel
theorem oa_m6 : ∀ i, i < 13 → ∀ j, j < 13 → i ≠ j → Cond.not (Cond.eq (oa_tm i) (oa_tm j)) ∈ flatC (Jvm.Cond.and given_1 narrow_1) ∨ Cond.not (Cond.eq (oa_tm j) (oa_tm i)) ∈ flatC (Jvm.Cond.and given_1 narrow_1) := by
  have key : ∀ i, i < 13 → ∀ j, j < 13 → i < j → Cond.not (Cond.eq (oa_tm i) (oa_tm j)) ∈ flatC (Jvm.Cond.and given_1 narrow_1) := by
    intro i hi
    match i, hi with
    | 0, _ => exact oa_m6_0
    | 1, _ => exact oa_m6_1
    | 2, _ => exact oa_m6_2
    | 3, _ => exact oa_m6_3
    | 4, _ => exact oa_m6_4
    | 5, _ => exact oa_m6_5
    | 6, _ => exact oa_m6_6
    | 7, _ => exact oa_m6_7
    | 8, _ => exact oa_m6_8
    | 9, _ => exact oa_m6_9
    | 10, _ => exact oa_m6_10
    | 11, _ => exact oa_m6_11
    | 12, _ => exact oa_m6_12
    | k + 13, h => exact absurd h (by omega)
  intro i hi j hj hne
  rcases Nat.lt_or_gt_of_ne hne with h | h
  · exact Or.inl (key i hi j hj h)
  · exact Or.inr (key j hj i hi h)
theorem oa_m7 : ∀ k, k < 5 → Cond.laysStatic "OneAnger" (oa_tnm k) "[I" ∈ lw_tbl := by decide +kernel
theorem oa_m8 : ∀ k, k < 5 → Cond.arrayOf (.static "OneAnger" (oa_tnm k) "[I") .int ∈ flatC (Jvm.Cond.and given_1 narrow_1) := by decide +kernel
theorem oa_m9 : ∀ k, k < 5 → Cond.eq (.length (.static "OneAnger" (oa_tnm k) "[I")) (.int (Int32.ofNat (oa_tln k))) ∈ flatC (Jvm.Cond.and given_1 narrow_1) := by decide +kernel
theorem oa_m10 : ∀ k, k < 5 → ∀ j, j < oa_tln k → Cond.eq (.elem (.static "OneAnger" (oa_tnm k) "[I") (.int (Int32.ofNat j))) (.int (oa_tbv k j)) ∈ flatC (Jvm.Cond.and given_1 narrow_1) := by decide +kernel
theorem oa_tlnS : ∀ k, k < 5 → oa_tln k < 2 ^ 31 := by decide
theorem oa_lenS : ∀ k, k < 13 → oa_len.getD k 0 < 2 ^ 31 := by decide
/-- the environment at the law's entry -/
theorem oa_env {s : State} {b : Nat} (hts : ∀ w ∈ lw_tbl, w.before #[Value.ref b] s = true) (hgv : (Jvm.Cond.and given_1 narrow_1).before #[Value.ref b] s = true) : ∃ tb aK aV : Nat → Nat, oa_E tb aK aV (fun q : Nat => s.heap.size ≤ q) s s.heap := by
  have hA : ∀ a : Nat, a < s.heap.size → ¬ (fun q : Nat => s.heap.size ≤ q) a := fun a h => Nat.not_le.mpr h
  have hs := flat_of_before _ hgv
  have htb : ∀ k, ∃ t : Nat, k < 5 → va_Z "OneAnger" (oa_tnm k) "[I" (.ref t) (fun q : Nat => s.heap.size ≤ q) s s.heap ∧ va_T .int t (oa_tln k) (fun j => .int (oa_tbv k j)) (fun q : Nat => s.heap.size ≤ q) s s.heap := by
    intro k
    by_cases hk : k < 5
    · obtain ⟨t, h1, h2⟩ := va_Tof (f := fun j => .int (oa_tbv k j)) (oa_tlnS k hk) (hs _ (oa_m8 k hk)) (va_eqt (hs _ (oa_m9 k hk))) (fun j hj => va_eqt (hs _ (oa_m10 k hk j hj))) hA
      exact ⟨t, fun _ => ⟨va_Zof (hts _ (oa_m7 k hk)) (hts _ (by decide +kernel)) h1 hA, h2⟩⟩
    · exact ⟨0, fun h => absurd h hk⟩
  obtain ⟨aK, aV, hS, hK⟩ := vk_Sof (N := 13) (tm := oa_tm) (len := oa_len) (byt := oa_byt) oa_lenS (fun i hi => hs _ (oa_m1 i hi)) (fun i hi => hs _ (oa_m2 i hi)) (fun i hi => hs _ (oa_m3 i hi)) (fun i hi => hs _ (oa_m4 i hi)) (fun i hi j hj => hs _ (oa_m5 i hi j hj)) (fun i j hi hj hij => (oa_m6 i hi j hj hij).elim (fun h => Or.inl (hs _ h)) (fun h => Or.inr (hs _ h))) hA
  refine ⟨fun k => Classical.choose (htb k), aK, aV, fun k hk => Classical.choose_spec (htb k) hk, ?_, ?_, hS, fun k hk => vk_R.of (hts _ (oa_m0 k hk)) (hK k hk), fun w hw => va_Nw.of (oa_nestO w hw) (hts w (oa_nestT w hw)), ?_, ?_⟩
  · exact va_Zof (hts (.laysStatic "java/lang/String" "COMPACT_STRINGS" "Z") (by decide +kernel)) (hts _ (by decide +kernel)) (va_eqt (hs (Cond.eq (.static "java/lang/String" "COMPACT_STRINGS" "Z") (.int 1)) (by decide +kernel))) hA
  · exact va_Zqof (hts (.laysStatic "jdk/internal/util/Preconditions" "SIOOBE_FORMATTER" "Ljava/util/function/BiFunction;") (by decide +kernel)) (hts _ (by decide +kernel)) (hs (Cond.isRef (.static "jdk/internal/util/Preconditions" "SIOOBE_FORMATTER" "Ljava/util/function/BiFunction;")) (by decide +kernel)) hA
  · exact va_AO.of (hts (.arrayOver (.object "OneAnger$Village")) (by decide +kernel))
  · exact va_AO.of (hts (.arrayOver (.object "OneAnger$Sheet")) (by decide +kernel))
theorem oa_prim {s : State} {args : Array Value} {ty : FieldType} (h : (Cond.arrayClass ty).before args s = true) (hp : ∀ C, ty ≠ .object C) : ∃ cA, ArrOfT s cA ty ∧ va_RA s cA ty := by
  obtain ⟨c, k, comp, h1, h2, h3⟩ := Cond.arrayClass_spec h
  refine ⟨c, fun n z => ⟨fun k h => (by cases h), k, h2, comp, h3⟩, ?_⟩
  cases ty with
  | object C => exact absurd rfl (hp C)
  | _ => exact h1
theorem oa_over {s : State} {args : Array Value} {C : String} (h : (Cond.arrayOver (.object C)).before args s = true) : ∃ cA, ArrOfT s cA (.object C) ∧ va_RA s cA (.object C) := by
  obtain ⟨comp, c, k, h1, h2, h3, h4, h5⟩ := Cond.arrayOver_spec h
  exact ⟨c, fun n z => ⟨fun k h => (by cases h), k, h3, comp, h4⟩, k, comp, h3, h4, h1, h5⟩
/-- classes and array classes at the law's entry -/
theorem oa_kn {s : State} {b : Nat} (hts : ∀ w ∈ lw_tbl, w.before #[Value.ref b] s = true) : ∃ (D : va_G) (ids : Nat → ClassId), va_K D vwCl (oa_tys ids) s := by
  obtain ⟨c0, s0, k0⟩ := u_known (C := RX0) (T := TX0) (N := 2) (n := 2) hts (fun w h => oa_gwt (ic_X0 w h)) (hts (.instantiable RX0 2) (by decide +kernel))
  obtain ⟨c1, s1, k1⟩ := u_known (C := RX1) (T := TX1) (N := 1) (n := 1) hts (fun w h => oa_gwt (ic_X1 w h)) (hts (.instantiable RX1 1) (by decide +kernel))
  obtain ⟨c2, s2, k2⟩ := u_known (C := RX2) (T := TX2) (N := 4) (n := 4) hts (fun w h => oa_gwt (ic_X2 w h)) (hts (.instantiable RX2 4) (by decide +kernel))
  obtain ⟨c3, s3, k3⟩ := u_known (C := RX3) (T := TX3) (N := 3) (n := 3) hts (fun w h => oa_gwt (ic_X3 w h)) (hts (.instantiable RX3 3) (by decide +kernel))
  obtain ⟨c4, s4, k4⟩ := u_known (C := RX4) (T := TX4) (N := 11) (n := 11) hts (fun w h => oa_gwt (ic_X4 w h)) (hts (.instantiable RX4 11) (by decide +kernel))
  obtain ⟨c5, s5, k5⟩ := u_known (C := RX5) (T := TX5) (N := 10) (n := 10) hts (fun w h => oa_gwt (ic_X5 w h)) (hts (.instantiable RX5 10) (by decide +kernel))
  obtain ⟨c6, s6, k6⟩ := u_known (C := RX6) (T := TX6) (N := 11) (n := 11) hts (fun w h => oa_gwt (ic_X6 w h)) (hts (.instantiable RX6 11) (by decide +kernel))
  obtain ⟨c7, s7, k7⟩ := u_known (C := RX7) (T := TX7) (N := 27) (n := 27) hts (fun w h => oa_gwt (ic_X7 w h)) (hts (.instantiable RX7 27) (by decide +kernel))
  obtain ⟨i0, a0, r0⟩ := oa_prim (hts (.arrayClass .int) (by decide +kernel)) (fun C h => by cases h)
  obtain ⟨i1, a1, r1⟩ := oa_prim (hts (.arrayClass .boolean) (by decide +kernel)) (fun C h => by cases h)
  obtain ⟨i2, a2, r2⟩ := oa_prim (hts (.arrayClass .long) (by decide +kernel)) (fun C h => by cases h)
  obtain ⟨i3, a3, r3⟩ := oa_over (hts (.arrayOver (.object "OneAnger$Village")) (by decide +kernel))
  obtain ⟨i4, a4, r4⟩ := oa_over (hts (.arrayOver (.object "OneAnger$Sheet")) (by decide +kernel))
  refine ⟨(fun k => if k = 0 then c0 else if k = 1 then c1 else if k = 2 then c2 else if k = 3 then c3 else if k = 4 then c4 else if k = 5 then c5 else if k = 6 then c6 else c7, fun k => if k = 0 then s0 else if k = 1 then s1 else if k = 2 then s2 else if k = 3 then s3 else if k = 4 then s4 else if k = 5 then s5 else if k = 6 then s6 else s7), fun k => if k = 0 then i0 else if k = 1 then i1 else if k = 2 then i2 else if k = 3 then i3 else i4, fun k q hq => ?_, fun k q hq => ?_⟩
  · match k, hq with
    | 0, hq => cases hq; exact k0
    | 1, hq => cases hq; exact k1
    | 2, hq => cases hq; exact k2
    | 3, hq => cases hq; exact k3
    | 4, hq => cases hq; exact k4
    | 5, hq => cases hq; exact k5
    | 6, hq => cases hq; exact k6
    | 7, hq => cases hq; exact k7
    | k + 8, hq => simp [vwCl] at hq
  · match k, hq with
    | 0, hq => cases hq; exact ⟨a0, r0⟩
    | 1, hq => cases hq; exact ⟨a1, r1⟩
    | 2, hq => cases hq; exact ⟨a2, r2⟩
    | 3, hq => cases hq; exact ⟨a3, r3⟩
    | 4, hq => cases hq; exact ⟨a4, r4⟩
    | k + 5, hq => simp [oa_tys] at hq
def R_law : String := "OneAngerLaw"
def lw_P (b : Addr) (xs : List Int32) (args : Array Value) (s : State) : Prop := args = #[.ref b] ∧ s.IntsAt b xs ∧ xs.length ≤ 2560 ∧ (Jvm.Cond.and given_1 narrow_1).before args s = true
def lw_Q (_ : Array Value) (s : State) (o : Outcome) (t : State) : Prop := o = .returned (some (.int 1)) ∧ Framed s o t [] 600000 7302250
def lw_Z (below : List Frame) (a : Array Value) (s : State) : State → Prop := fun t => ∃ o, t.status = .running ∧ Ended t below o ∧ lw_Q a s o t
/-- the law's own end, with 1 on the stack, nothing written that was there before, its room as the claim has it -/
theorem lw_ret {p : Program} {l : Launch} {e : Env} {s : State} {m : MethodId} {below : List Frame} {meth : Method} {c : Code} {b : Nat} (hx : p.tables.exec = Jvm.exec) (hb : c.code = code) (hr : meth.sig.returnType = ret) (hlocks : meth.locks = false) {pc : Nat} {H : Heap} {ls : Array Slot} (hdg : decode code pc = .ok (.ireturn, 1)) : W p l e room_1 s m #[Value.ref b] below meth c H [] 600000 7302250 (lw_Z below #[Value.ref b] s) (F0 m pc ls [.int 1]) := by
  intro T hT X
  obtain ⟨fs, hret, hrun, hended, hW, hframe⟩ := X.leave (v := some (.int 1)) (hlocks := hlocks) (fun h => by rw [hr] at h; cases h)
  have hmeth' : T.vm.method? m = some meth := X.method'
  refine ⟨T.setFrames fs, ?_, .returned (some (.int 1)), hrun, hended, rfl, ⟨_, rfl⟩, hW, hframe⟩
  jvm_step X.here [X.here.top, hx, hb, hdg, hmeth', hr, ret, narrow_b1]
  (try refine ⟨rfl, ?_⟩); (try refine ⟨rfl, ?_⟩)
  first | (intro acts; rw [hret _ acts rfl rfl rfl]) | rw [hret _ _ rfl rfl rfl]
  exact Steps.refl _
/-- what holds at the law's entry: the machine, the code, the tables' words (any of lw_tbl by 'hts w (by decide +kernel)'), the script of L ints xs at the cell b, what the Statement gives of the start (any of its parts by flat_of_before) -/
def lw_At (p : Program) (s : State) (m : MethodId) (meth : Method) (c : Code) (b L : Nat) (xs : Nat → Int32) : Prop :=
  p.tables.exec = Jvm.exec ∧ c.code = code ∧ meth.sig.returnType = ret ∧ c.maxLocals = 4 ∧ s.vm.findClass R_law = some m.cls ∧ (∀ w ∈ lw_tbl, w.before #[Value.ref b] s = true) ∧ va_X b L xs s s.heap ∧ b < s.heap.size ∧ meth.locks = false ∧ (Jvm.Cond.and given_1 narrow_1).before #[Value.ref b] s = true
set_option maxHeartbeats 4000000 in
/-- from the entry, for every script of at most 2560 ints, the law comes to its end with true -/
theorem whole_start {p : Program} {e : Env} {s : State} {m : MethodId} {below : List Frame} {meth : Method} {c : Code} (l : Launch) (hflags : l.flags = flags0) {b L : Nat} {xs : Nat → Int32} (hL : L ≤ 2560) (C0 : lw_At p s m meth c b L xs) : W p l e room_1 s m #[Value.ref b] below meth c s.heap [] 0 0 (lw_Z below #[Value.ref b] s) (entryFrame m ([Value.ref b] : List Value).toArray 4) := by
  obtain ⟨hx, hb, hr, hml, hown, hts, hX, hbl, hlocks, hgv⟩ := C0
  obtain ⟨tb, aK, aV, hE⟩ := oa_env hts hgv
  obtain ⟨D, ids, hK⟩ := oa_kn hts
  have hr : meth.sig.returnType = some .boolean := hr
  have C : oa_C (p, l, e, room_1, s, m, #[Value.ref b], below, meth, c) cL_law 4 RL (some .boolean) room_1 (tb, aK, aV, D, ids) (fun q : Nat => s.heap.size ≤ q) := ⟨rfl, hx, hb, hml, hown, fun w hw => hts w (oa_gwt hw), hr, hlocks, hK, fun _ h => h, hE⟩
  have hsc : oa_scr (p, l, e, room_1, s, m, #[Value.ref b], below, meth, c) (fun q : Nat => s.heap.size ≤ q) b L xs := ⟨hX, hbl, Nat.not_le.mpr hbl⟩
  have hend : ∀ (LL : List (Nat × Value)) (ws : va_W), ww (p, l, e, room_1, s, m, #[Value.ref b], below, meth, c) 4 (tb, aK, aV, D, ids) (fun q : Nat => s.heap.size ≤ q) (lw_Z below #[Value.ref b] s) (65, 7624) 1321 LL [.int 1] ws := by
    intro LL ws H locs ls hP hD hS hl
    refine va_forget (fun q hq => hS.2.2 q hq) ?_
    refine W.widen (k := 600000) (n := 7302250) (Nat.le_of_ble_eq_true rfl) (Nat.le_of_ble_eq_true rfl) ?_
    exact lw_ret hx hb hr hlocks dL_law_1321
  rw [lg_entry_eq]
  have hl := lv_entry ([.ref b]) (n := 4) (Nat.le_of_ble_eq_true rfl)
  suffices hmain : ww (p, l, e, room_1, s, m, #[Value.ref b], below, meth, c) 4 (tb, aK, aV, D, ids) (fun q : Nat => s.heap.size ≤ q) (lw_Z below #[Value.ref b] s) (0, 0) 0 [(0, .ref b)] [] [] from hmain s.heap [] _ (fun k q h => by simp at h) ⟨fun i j p q h => by simp at h, fun k q h => by simp at h⟩ va_S.rf hl
  generalize hO : (tb, aK, aV, D, ids) = O at C hend ⊢
  refine ww_new (pc := 0) (fs := [.null, .null, .null, .null, .null, .null, .null, .null, .null, .int 0, .int 0]) C nw_L_7 df_X6 ⟨Nat.le_of_ble_eq_true rfl, Nat.le_of_ble_eq_true rfl⟩ dL_law_0 (fun q1 => ?_)
  refine ww_dup (pc := 3) C dL_law_3 rfl ?_
  refine ww_callI (pc := 4) (wr := []) (b := q1) (e0 := .inr (6, [.null, .null, .null, .null, .null, .null, .null, .null, .null, .int 0, .int 0])) C hY_X6_init hi_X6_init rfl lk_L_9 (m_X6_init _ O q1) ⟨Nat.le_of_ble_eq_true rfl, Nat.le_of_ble_eq_true rfl⟩ ⟨Nat.le_of_ble_eq_true rfl, Nat.le_of_ble_eq_true rfl⟩ (Nat.le_of_ble_eq_true rfl) dL_law_4 (fun W1 hW => ?_)
  obtain ⟨a, ha, rfl⟩ := hW
  subst ha
  refine ww_ws (ws' := wd_O O a oa_B0 oa_J0) rfl ?_
  refine ww_astore_n (pc := 7) (L' := [(0, .ref b), (1, .ref (a 0))]) C [1, 0] dL_law_7 rfl (Nat.le_of_ble_eq_true rfl) rfl ?_
  refine ww_new (pc := 8) (fs := [.null, .null, .null, .null, .null, .int 0, .int 0, .int 0, .int 0, .int 0, .int 0, .int 0, .int 0, .null, .null, .int 0, .int 0, .null, .null, .null, .long 0, .long 0, .null, .null, .null, .null, .int 0]) C nw_L_10 df_X7 ⟨Nat.le_of_ble_eq_true rfl, Nat.le_of_ble_eq_true rfl⟩ dL_law_8 (fun q2 => ?_)
  refine ww_dup (pc := 11) C dL_law_11 rfl ?_
  refine ww_callI (pc := 12) (wr := wd_O O a oa_B0 oa_J0) (b := q2) (e0 := .inr (7, [.null, .null, .null, .null, .null, .int 0, .int 0, .int 0, .int 0, .int 0, .int 0, .int 0, .int 0, .null, .null, .int 0, .int 0, .null, .null, .null, .long 0, .long 0, .null, .null, .null, .null, .int 0])) C hY_X7_init hi_X7_init rfl lk_L_12 (m_X7_init _ O q2) ⟨Nat.le_of_ble_eq_true rfl, Nat.le_of_ble_eq_true rfl⟩ ⟨Nat.le_of_ble_eq_true rfl, Nat.le_of_ble_eq_true rfl⟩ (Nat.le_of_ble_eq_true rfl) dL_law_12 (fun W2 hW => ?_)
  obtain ⟨cc, hc, rfl⟩ := hW
  subst hc
  refine ww_astore_n (pc := 15) (L' := [(0, .ref b), (1, .ref (a 0)), (2, .ref (cc 0))]) C [1, 2, 0] dL_law_15 rfl (Nat.le_of_ble_eq_true rfl) rfl ?_
  refine ww_iconst (pc := 16) C dL_law_16 kc_0 ?_
  refine ww_istore_n (pc := 17) (L' := [(0, .ref b), (1, .ref (a 0)), (2, .ref (cc 0)), (3, .int 0)]) C [1, 2, 3, 0] dL_law_17 rfl (Nat.le_of_ble_eq_true rfl) rfl ?_
  exact t_l_law C ⟨Nat.le_of_ble_eq_true rfl, Nat.le_of_ble_eq_true rfl⟩ hsc hend oa_fu oa_B0 oa_J0 oa_M0 oa_J0 0 (oa_main xs L hL)

set_option maxHeartbeats 4000000 in
theorem lw_walk (l : Launch) (hflags : l.flags = flags0) (b : Addr) (xs : List Int32) : MetFree l x (headSpec (Jvm.Cond.code x code maxLocals ret :: tables_1) room_1) (lw_P b xs) (fun _ _ _ _ _ => True) lw_Q := by
  refine MetFree.of_bodyS (code := code) (maxLocals := maxLocals) (ret := ret) (by decide) ?_ ?_
  · intro args s m h hn
    obtain ⟨meth, c, h1, h2, h3, h4, h5, h6, -, -⟩ := Cond.code_spec hn (atoms_spec (ws := Jvm.Cond.code x code maxLocals ret :: tables_1) h _ List.mem_cons_self)
    exact ⟨meth, c, h1, h2, h3, h4, h5, h6⟩
  · intro p e s m args below meth c s₁ B hml0 hP _
    obtain ⟨rfl, hx, hbd, hgv⟩ := hP
    obtain ⟨scr, harrAt, hlist, hof, hsmall⟩ := hx
    obtain ⟨hcb, hkn, -, -⟩ := State.arrayAt?_spec harrAt
    have hown : s.vm.findClass R_law = some m.cls := findClass_of_methodNamed B.named
    have hts0 : ∀ c ∈ (Jvm.Cond.code x code maxLocals ret :: tables_1), c.before #[Value.ref b] s = true := atoms_spec (ws := Jvm.Cond.code x code maxLocals ret :: tables_1) B.pre
    have hts : ∀ w ∈ lw_tbl, w.before #[Value.ref b] s = true := k2_hts_sels lw_privs (fun w hw => hts0 w (List.mem_cons_of_mem _ hw)) lw_privs_ok
    have hml : c.maxLocals = 4 := B.maxLocals_eq (hts0 _ List.mem_cons_self)
    have X₀ : Stand p l e room_1 s m #[Value.ref b] below meth c s₁ [] 0 0 := Stand.of_body B
    have hh0 : s₁.heap = s.heap := by rw [B.state]; rfl
    have hsz : scr.slots.size = xs.length := by rw [← Array.length_toList, hlist, List.length_map]
    have hval : ∀ j : Nat, j < xs.length → scr.slots[j]? = some (.int (xs.getD j 0)) := fun j hj => by
      rw [← Array.getElem?_toList, hlist]
      simp [hj]
    have hbl : b < s.heap.size := (Array.getElem?_eq_some_iff.mp hcb).1
    have hX : va_X b xs.length (fun j => xs.getD j 0) s s.heap := ⟨scr, hcb, hof, hkn, hsz, hval⟩
    have K : W p l e room_1 s m #[Value.ref b] below meth c s₁.heap [] 0 0 (lw_Z below #[Value.ref b] s) (entryFrame m ([Value.ref b] : List Value).toArray 4) := by
      rw [hh0]
      exact whole_start l hflags hbd ⟨B.exec, B.bytes, B.returns, hml, hown, hts, hX, hbl, B.notSynchronized, hgv⟩
    obtain ⟨t, a1, o, b1, b2, b3⟩ := K s₁ rfl X₀
    exact ⟨t, o, a1, b1, b2, b3⟩
theorem lw_pre_spec {args : Array Value} {s : State} (h : (Jvm.Cond.and given_1 narrow_1).before args s = true) (hr : rest_1_c.before args s = true) : ∃ (b : Addr) (xs : List Int32), lw_P b xs args s := by
  have hs := flat_of_before _ h
  have hq := flat_of_before _ hr
  have hc : (Cond.count 1).before args s = true := hs _ (by decide +kernel)
  have harr : (Cond.arrayOf (.arg 0) .int).before args s = true := hs _ (by decide +kernel)
  have hle : (Cond.le (.length (.arg 0)) (.int 2560)).before args s = true := hs _ (by decide +kernel)
  have hlen : (Cond.isInt (.length (.arg 0))).before args s = true := hq _ (by decide +kernel)
  have hall : (Cond.all (.arg 0) (.isInt (.elem (.arg 0) (.index 0)))).before args s = true := hq _ (by decide +kernel)
  obtain ⟨b, xs, hb, hx⟩ := State.ints_of_pre rfl harr hlen hall
  have hsm : xs.length < 2 ^ 31 := hx.choose_spec.2.2.2
  have hev : (Term.length (.arg 0)).eval args s none [] s = some (.int xs.length.toInt32) := hx.length_eval hb
  have hv := Cond.le_ints hev (show (Term.int 2560).eval args s none [] s = some (.int 2560) from rfl)
  have hd : xs.length.toInt32 ≤ 2560 := by
    simpa [Cond.before, Cond.holds, hv] using hle
  have hN : xs.length ≤ 2560 := (Int32.ofNat_le_ofNat hsm (by decide)).mp (show Int32.ofNat xs.length ≤ Int32.ofNat 2560 from hd)
  exact ⟨b, xs, Cond.one_arg hc (show args[0]? = some (.ref b) from hb), hx, hN, h⟩
theorem lw_comes (l : Launch) (hflags : l.flags = flags0) : Comes l x (Jvm.Cond.code x code maxLocals ret :: tables_1) room_1 (fun tb e args s => Calls_1 tb e args s ∧ rest_1 tb e args s ∧ Pre_1 tb e args s)
    (fun _ _ args s o t => lw_Q args s o t) := by
  intro p e ha hc hk s m args below hf hfit hheap happ hpre
  obtain ⟨b, xs, hP⟩ := lw_pre_spec hpre.2.2 hpre.2.1
  obtain ⟨k, o, h1, h2, h3, hQ⟩ := lw_walk l hflags b xs p e ha hc hk s m args below hf ((Spec.applies_iff_loose hf).mp happ).1 hP trivial
  exact ⟨k, o, h1, h2, h3, hQ⟩
theorem lw_frame {s t : State} {o : Outcome} {args : Array Value} (h : Framed s o t [] 600000 7302250) :
    Framed s o t (fieldLocs frame_1_writes args s ++ arrayLocs frame_1_arrays args s ++ staticLocs frame_1_statics s) 600000 7302250 := h
theorem lw_limb (L : Cond) (hL : ∀ (args : Array Value) (s t : State), L.after args s (.returned (some (.int 1))) t = true) :
    ArmFor flags0 classFile x code maxLocals ret World_1 tables_1 room_1 Calls_1 rest_1 Pre_1
      (fun tb e a s o t => postC L tb e a s o t ∧ Framed s o t (fieldLocs frame_1_writes a s ++ arrayLocs frame_1_arrays a s ++ staticLocs frame_1_statics s) 600000 7302250) := by
  intro l hflags _ _ p e ha hc hk s m args below hf hfit hheap happ hpre
  obtain ⟨k, o, h1, h2, h3, rfl, hF⟩ := lw_comes l hflags p e ha hc hk s m args below hf hfit hheap happ hpre
  exact ⟨k, _, h1, h2, h3, hL args s _, lw_frame hF⟩
theorem i_vc : Claimed_1_1 ∧ Claimed_1_2 := ⟨lw_limb limb_1_1 (fun args s t => by simp [limb_1_1, Cond.after, Cond.holds, Cond.value]), lw_limb limb_1_2 (fun args s t => Cond.after_iff.mpr (by
  first | (rw [show limb_1_2 = Cond.eq .result (.int 1) from rfl, Cond.eq_ints (x := 1) (y := 1) rfl rfl]; simp; done) | (simp [limb_1_2, Cond.value, Term.eval]; done)))⟩

