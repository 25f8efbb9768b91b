/-! words, the environment that stands outside every world, contracts, the layer ww -/
def oa_gw : List Cond := lw_tbl.filter goodWord
theorem oa_at {w : Cond} (i : Nat) (h : lw_tbl[i]? = some w) (hg : goodWord w = true) : w ∈ oa_gw := List.mem_filter.mpr ⟨List.mem_of_getElem? h, hg⟩
theorem oa_good {w : Cond} (h : w ∈ oa_gw) : (w.onTables && w.keeps) = true ∨ ∃ ty, w = .arrayClass ty := good_of_word (List.mem_filter.mp h).2
theorem oa_sub {w : Cond} (h : w ∈ oa_gw) : GoodIn oa_gw (w :: oa_gw) := by
  intro v hv
  have hm : v ∈ oa_gw := by
    rcases List.mem_cons.mp hv with rfl | h1
    · exact h
    · exact h1
  exact ⟨hm, oa_good hm⟩
def oa_tnm : Nat → String := fun k => match k with
  | 0 => "LEAST"
  | 1 => "MOST"
  | 2 => "RULE_FIRST"
  | 3 => "RULE_LEAST"
  | _ => "RULE_MOST"
def oa_tln : Nat → Nat := fun k => match k with
  | 0 => 7
  | 1 => 7
  | _ => 3
def oa_tbl : List (List Int32) := [[0, 0, 0, 0, 0, 1, 0], [4, 20, 20, 20, 20, 4, 20], [1, 4, 10], [1, 1, 0], [2, 9, 10]]
def oa_tbv (k j : Nat) : Int32 := (oa_tbl.getD k []).getD j 0
def oa_stx : List String := ["one", "law", "last", "see", "quick", "keeper", "guard", "feign", "calm", "keep", "kin", "angry", "sea"]
def oa_six : List Nat := [98, 104, 106, 108, 144, 146, 148, 150, 152, 154, 156, 158, 160]
def oa_len : List Nat := [3, 3, 4, 3, 5, 6, 5, 5, 4, 4, 3, 5, 3]
def oa_byt : List (List Int32) := [[111, 110, 101], [108, 97, 119], [108, 97, 115, 116], [115, 101, 101], [113, 117, 105, 99, 107], [107, 101, 101, 112, 101, 114], [103, 117, 97, 114, 100], [102, 101, 105, 103, 110], [99, 97, 108, 109], [107, 101, 101, 112], [107, 105, 110], [97, 110, 103, 114, 121], [115, 101, 97]]
def oa_nest : List Cond := [.fieldLinkNest "OneAnger$Village" 30 "OneAnger" "RULE_FIRST" "[I" "OneAnger", .fieldLinkNest "OneAnger$Text" 135 "OneAnger" "LEAST" "[I" "OneAnger", .fieldLinkNest "OneAnger$Text" 138 "OneAnger" "MOST" "[I" "OneAnger", .fieldLinkNest "OneAnger$Text" 110 "OneAnger" "RULE_LEAST" "[I" "OneAnger", .fieldLinkNest "OneAnger$Text" 113 "OneAnger" "RULE_MOST" "[I" "OneAnger",
  .methodLinkNest "OneAnger" 21 yX4_init "OneAnger", .methodLinkNest "OneAnger" 42 yX1_init "OneAnger", .methodLinkNest "OneAnger" 49 yX2_init "OneAnger", .methodLinkNest "OneAnger" 56 yX0_init "OneAnger", .methodLinkNest "OneAnger" 68 yX3_init "OneAnger", .methodLinkNest "OneAnger$Text" 26 yX6_within "OneAnger", .methodLinkNest "OneAnger$Village" 62 yX6_within "OneAnger", .methodLinkNest "OneAnger$Village" 116 yX6_costFor "OneAnger"]
def oa_isN : Cond → Bool
  | .fieldLinkNest .. => true
  | .methodLinkNest .. => true
  | _ => false
theorem oa_nestN : oa_nest.all oa_isN = true := rfl
theorem oa_nwarm {w : Cond} (hw : oa_isN w = true) {s U : State} (hW : s.WarmedH U.vm) (h : va_Nw w s) : va_Nw w U := by
  cases w <;> first | exact va_Nw.warmF hW h | exact va_Nw.warmM hW h | (simp [oa_isN] at hw; done)
theorem oa_nsame {w : Cond} (hw : oa_isN w = true) {s U : State} (hv : s.vm = U.vm) (h : va_Nw w s) : va_Nw w U := by
  cases w <;> first | exact va_Nw.same rfl hv h | (simp [oa_isN] at hw; done)
/-- what stands outside every world: the class's static rows, String's constants, links to private members -/
def oa_E (tb aK aV : Nat → Nat) (A : Nat → Prop) (U : State) (H : Heap) : Prop :=
  (∀ k : Nat, k < 5 → va_Z "OneAnger" (oa_tnm k) "[I" (.ref (tb k)) A U H ∧ va_T .int (tb k) (oa_tln k) (fun j => .int (oa_tbv k j)) A U H) ∧
  va_Z "java/lang/String" "COMPACT_STRINGS" "Z" (.int 1) A U H ∧ va_Zq "jdk/internal/util/Preconditions" "SIOOBE_FORMATTER" "Ljava/util/function/BiFunction;" A U H ∧
  vk_S 13 oa_len oa_byt aK aV A U H ∧ (∀ k : Nat, k < 13 → vk_R "OneAnger$Text" (oa_six.getD k 0) (oa_stx.getD k "") (aK k) U) ∧ (∀ w ∈ oa_nest, va_Nw w U) ∧ va_AO "OneAnger$Village" U ∧ va_AO "OneAnger$Sheet" U
theorem oa_E.narrow {tb aK aV : Nat → Nat} {A B : Nat → Prop} {U : State} {H : Heap} (h : oa_E tb aK aV A U H) (hAB : ∀ q, B q → A q) : oa_E tb aK aV B U H :=
  ⟨fun k hk => ⟨(h.1 k hk).1.narrow hAB, (h.1 k hk).2.narrow hAB⟩, h.2.1.narrow hAB, h.2.2.1.narrow hAB, h.2.2.2.1.narrow hAB, h.2.2.2.2⟩
theorem oa_E.kept {tb aK aV : Nat → Nat} {A : Nat → Prop} {U : State} {H H1 : Heap} (h : oa_E tb aK aV A U H) (hq : ∀ a : Nat, a < H.size → ¬ A a → H1[a]? = H[a]?) : oa_E tb aK aV A U H1 :=
  ⟨fun k hk => ⟨(h.1 k hk).1.kept hq, (h.1 k hk).2.kept hq⟩, h.2.1.kept hq, h.2.2.1.kept hq, h.2.2.2.1.kept hq, h.2.2.2.2⟩
theorem oa_E.warm {tb aK aV : Nat → Nat} {A : Nat → Prop} {s U : State} {H : Heap} (hW : s.WarmedH U.vm) (h : oa_E tb aK aV A s H) : oa_E tb aK aV A U H :=
  ⟨fun k hk => ⟨(h.1 k hk).1.moved hW.alike, (h.1 k hk).2.moved hW.alike⟩, h.2.1.moved hW.alike, h.2.2.1.moved hW.alike, h.2.2.2.1.moved hW.alike, fun k hk => (h.2.2.2.2.1 k hk).warm hW, fun w hw => oa_nwarm (List.all_eq_true.mp oa_nestN w hw) hW (h.2.2.2.2.2.1 w hw), h.2.2.2.2.2.2.1.moved hW.alike, h.2.2.2.2.2.2.2.moved hW.alike⟩
theorem oa_E.same {tb aK aV : Nat → Nat} {A : Nat → Prop} {s U : State} {H : Heap} (hv : s.vm = U.vm) (h : oa_E tb aK aV A s H) : oa_E tb aK aV A U H := by
  have ha : s.vm.Alike U.vm := by rw [hv]; exact Vm.Alike.refl U.vm
  exact ⟨fun k hk => ⟨(h.1 k hk).1.moved ha, (h.1 k hk).2.moved ha⟩, h.2.1.moved ha, h.2.2.1.moved ha, h.2.2.2.1.moved ha, fun k hk => (h.2.2.2.2.1 k hk).same hv.symm, fun w hw => oa_nsame (List.all_eq_true.mp oa_nestN w hw) hv (h.2.2.2.2.2.1 w hw), h.2.2.2.2.2.2.1.moved ha, h.2.2.2.2.2.2.2.moved ha⟩
/-- the array types: int, boolean, long, Village, Sheet -/
def oa_tys (d : Nat → ClassId) : List (ClassId × FieldType) := [(d 0, .int), (d 1, .boolean), (d 2, .long), (d 3, .object "OneAnger$Village"), (d 4, .object "OneAnger$Sheet")]
/-- fixed for a whole run: tables' addresses, strings' addresses, classes, array classes -/
abbrev oa_O : Type := (Nat → Nat) × (Nat → Nat) × (Nat → Nat) × va_G × (Nat → ClassId)
def oa_id (O : oa_O) (k : Nat) : ClassId := O.2.2.2.2 k
/-- a contract's start and end -/
def oa_PC (O : oa_O) (av : List Value) (W0 : va_W) (sz : Nat) : Array Value → State → Prop := va_Pc av (fun U => U.heap.size = sz ∧ va_P O.2.2.2.1 vwCl W0 U.heap ∧ va_K O.2.2.2.1 vwCl (oa_tys O.2.2.2.2) U ∧ va_D (fun _ => True) W0 ∧ oa_E O.1 O.2.1 O.2.2.1 (va_A W0 sz) U U.heap)
def oa_QC (O : oa_O) (A : Nat → Prop) (rv : Option Value) (Wf : va_W → Prop) : Array Value → State → Outcome → State → Prop := fun _ st o t => (o = .returned rv ∧ ∃ W1, Wf W1 ∧ va_P O.2.2.2.1 vwCl W1 t.heap ∧ va_K O.2.2.2.1 vwCl (oa_tys O.2.2.2.2) t ∧ va_D A W1) ∧ va_F A st t
def oa_M (l : Launch) (y : MethodName) (cc : ByteArray) (nL : Nat) (ret : Option FieldType) (rm : Room) (O : oa_O) (av : List Value) (W0 : va_W) (rv : Option Value) (Wf : va_W → Prop) : Prop :=
  ∀ sz : Nat, Met l y (.code y cc nL ret :: oa_gw) rm (oa_PC O av W0 sz) (oa_QC O (va_A W0 sz) rv Wf) rm.cells rm.slots (va_A W0 sz)
/-- the machine's fixed part while a method runs -/
abbrev oa_G : Type := Program × Launch × Env × Room × State × MethodId × Array Value × List Frame × Method × Code
def oa_C (G : oa_G) (cc : ByteArray) (nL : Nat) (own : String) (ret : Option FieldType) (rm : Room) (O : oa_O) (A : Nat → Prop) : Prop :=
  match G with
  | (p, _, _, R, s, m, args, _, meth, c) => R = rm ∧ p.tables.exec = Jvm.exec ∧ c.code = cc ∧ c.maxLocals = nL ∧ s.vm.findClass own = some m.cls ∧ (∀ w ∈ oa_gw, w.before args s = true) ∧ meth.sig.returnType = ret ∧ meth.locks = false ∧ va_K O.2.2.2.1 vwCl (oa_tys O.2.2.2.2) s ∧ (∀ q, s.heap.size ≤ q → A q) ∧ oa_E O.1 O.2.1 O.2.2.1 A s s.heap
/-- the machine at pc, with locals L, operands st, world ws, comes to Q -/
def ww (G : oa_G) (nL : Nat) (O : oa_O) (A : Nat → Prop) (Q : State → Prop) (cs : Nat × Nat) (pc : Nat) (L : List (Nat × Value)) (st : List Value) (ws : va_W) : Prop :=
  match G with
  | (p, l, e, R, s, m, args, below, meth, c) => ∀ (H : Heap) (locs : List Loc) (ls : Array Slot), va_P O.2.2.2.1 vwCl ws H → va_D A ws → va_S A s.heap H locs → lv_has ls nL L → W p l e R s m args below meth c H locs cs.1 cs.2 Q (F0 m pc ls st)
def oa_Q (G : oa_G) (O : oa_O) (A : Nat → Prop) (cs : Nat × Nat) (rv : Option Value) (Wf : va_W → Prop) : State → Prop :=
  match G with
  | (_, _, _, _, s, _, args, below, _, _) => MQ below (oa_QC O A rv Wf) args s cs.1 cs.2 A
