/-! contracts (printed by wip/whole/gen/run.py) -/
theorem dX0_weightOf_0 : decode cX0_weightOf 0 = .ok (.lconst 1, 1) := by decide +kernel
theorem dX0_weightOf_1 : decode cX0_weightOf 1 = .ok (.lstore_n 3, 1) := by decide +kernel
theorem dX0_weightOf_2 : decode cX0_weightOf 2 = .ok (.iconst 0, 1) := by decide +kernel
theorem dX0_weightOf_3 : decode cX0_weightOf 3 = .ok (.istore 5, 2) := by decide +kernel
theorem dX0_weightOf_5 : decode cX0_weightOf 5 = .ok (.iload 5, 2) := by decide +kernel
theorem dX0_weightOf_7 : decode cX0_weightOf 7 = .ok (.iload_n 2, 1) := by decide +kernel
theorem dX0_weightOf_8 : decode cX0_weightOf 8 = .ok (.if_icmp .ge 28, 3) := by decide +kernel
theorem dX0_weightOf_11 : decode cX0_weightOf 11 = .ok (.lload_n 3, 1) := by decide +kernel
theorem dX0_weightOf_12 : decode cX0_weightOf 12 = .ok (.iload 5, 2) := by decide +kernel
theorem dX0_weightOf_14 : decode cX0_weightOf 14 = .ok (.iload_n 1, 1) := by decide +kernel
theorem dX0_weightOf_15 : decode cX0_weightOf 15 = .ok (.if_icmp .ge 11, 3) := by decide +kernel
theorem dX0_weightOf_18 : decode cX0_weightOf 18 = .ok (.bipush 10, 2) := by decide +kernel
theorem dX0_weightOf_20 : decode cX0_weightOf 20 = .ok (.iload_n 0, 1) := by decide +kernel
theorem dX0_weightOf_21 : decode cX0_weightOf 21 = .ok (.isub, 1) := by decide +kernel
theorem dX0_weightOf_22 : decode cX0_weightOf 22 = .ok (.i2l, 1) := by decide +kernel
theorem dX0_weightOf_23 : decode cX0_weightOf 23 = .ok (.goto 5, 3) := by decide +kernel
theorem dX0_weightOf_26 : decode cX0_weightOf 26 = .ok (.iload_n 0, 1) := by decide +kernel
theorem dX0_weightOf_27 : decode cX0_weightOf 27 = .ok (.i2l, 1) := by decide +kernel
theorem dX0_weightOf_28 : decode cX0_weightOf 28 = .ok (.lmul, 1) := by decide +kernel
theorem dX0_weightOf_29 : decode cX0_weightOf 29 = .ok (.lstore_n 3, 1) := by decide +kernel
theorem dX0_weightOf_30 : decode cX0_weightOf 30 = .ok (.iinc 5 1, 3) := by decide +kernel
theorem dX0_weightOf_33 : decode cX0_weightOf 33 = .ok (.goto (-28), 3) := by decide +kernel
theorem dX0_weightOf_36 : decode cX0_weightOf 36 = .ok (.lload_n 3, 1) := by decide +kernel
theorem dX0_weightOf_37 : decode cX0_weightOf 37 = .ok (.lreturn, 1) := by decide +kernel
abbrev rm_X0_weightOf : Room := { frames := 0, cells := 0, slots := 0, locals := 0 }
theorem t_b_X0_weightOf_5 {G : oa_G} {O : oa_O} {A : Nat → Prop}  {res : Int64} (C : oa_C G cX0_weightOf 6 RX0 (some .long) rm_X0_weightOf O A) (x0 : Int32) (x1 : Int32) (x2 : Int32)    (k5 : Int64 → Int32 → Option (Int64))  (hk5 : ∀ (b_x3 : Int64) (b_x5 : Int32), k5 b_x3 b_x5 = some res → ww G 6 O A (oa_Q G O A (0, 0) (some (.long res)) (fun W1 => W1 = [])) (0, 0) 5 [(0, .int x0), (1, .int x1), (2, .int x2), (3, .long b_x3), (5, .int b_x5)] [] ([])) (x3 : Int64) (x5 : Int32) (hf : b_X0_weightOf_5 x0 x1 x2 k5 x3 x5 = some res) : ww G 6 O A (oa_Q G O A (0, 0) (some (.long res)) (fun W1 => W1 = [])) (0, 0) 5 [(0, .int x0), (1, .int x1), (2, .int x2), (3, .long x3), (5, .int x5)] [] ([]) := by
  delta b_X0_weightOf_5 at hf
  refine ww_iload (pc := 5) (i := 5) C 4 dX0_weightOf_5 rfl ?_
  refine ww_iload_n (pc := 7) (i := 2) C 2 dX0_weightOf_7 rfl rfl ?_
  refine ww_icmp_ge (pc := 8) (tgt := 36) C dX0_weightOf_8 (by decide) (fun c1 => ?_) (fun c1 => ?_)
  · have hf := oa_ifp c1 hf
    refine ww_lload_n (pc := 36) (i := 3) C 3 dX0_weightOf_36 rfl rfl ?_
    obtain rfl := Option.some.inj hf
    exact ww_lret (pc := 37) C rfl dX0_weightOf_37
  · have hf := oa_ifn c1 hf
    refine ww_lload_n (pc := 11) (i := 3) C 3 dX0_weightOf_11 rfl rfl ?_
    refine ww_iload (pc := 12) (i := 5) C 4 dX0_weightOf_12 rfl ?_
    refine ww_iload_n (pc := 14) (i := 1) C 1 dX0_weightOf_14 rfl rfl ?_
    refine ww_icmp_ge (pc := 15) (tgt := 26) C dX0_weightOf_15 (by decide) (fun c2 => ?_) (fun c2 => ?_)
    · have hf := oa_ifp c2 hf
      refine ww_iload_n (pc := 26) (i := 0) C 0 dX0_weightOf_26 rfl rfl ?_
      refine ww_i2l (pc := 27) C dX0_weightOf_27 ?_
      refine ww_lmul (pc := 28) C dX0_weightOf_28 ?_
      obtain ⟨y3, e4, hf⟩ := oa_letE hf
      refine ww_topl C e4 ?_
      refine ww_lstore_n (pc := 29) (L' := [(0, .int x0), (1, .int x1), (2, .int x2), (3, .long y3), (5, .int x5)]) C [1, 2, 3, 0, 4] dX0_weightOf_29 rfl (Nat.le_of_ble_eq_true rfl) rfl ?_
      refine ww_iinc (pc := 30) (v := (x5 + 1)) (L' := [(0, .int x0), (1, .int x1), (2, .int x2), (3, .long y3), (5, .int (x5 + 1))]) C 4 [1, 2, 3, 4, 0] dX0_weightOf_30 rfl (ki_1 _) (Nat.le_of_ble_eq_true rfl) rfl ?_
      refine ww_goto (pc := 33) (tgt := 5) C dX0_weightOf_33 (by decide) ?_
      exact hk5 y3 (x5 + 1) hf
    · have hf := oa_ifn c2 hf
      refine ww_bipush (pc := 18) C dX0_weightOf_18 kb_10 ?_
      refine ww_iload_n (pc := 20) (i := 0) C 0 dX0_weightOf_20 rfl rfl ?_
      refine ww_isub (pc := 21) C dX0_weightOf_21 ?_
      refine ww_i2l (pc := 22) C dX0_weightOf_22 ?_
      refine ww_goto (pc := 23) (tgt := 28) C dX0_weightOf_23 (by decide) ?_
      refine ww_lmul (pc := 28) C dX0_weightOf_28 ?_
      obtain ⟨y5, e6, hf⟩ := oa_letE hf
      refine ww_topl C e6 ?_
      refine ww_lstore_n (pc := 29) (L' := [(0, .int x0), (1, .int x1), (2, .int x2), (3, .long y5), (5, .int x5)]) C [1, 2, 3, 0, 4] dX0_weightOf_29 rfl (Nat.le_of_ble_eq_true rfl) rfl ?_
      refine ww_iinc (pc := 30) (v := (x5 + 1)) (L' := [(0, .int x0), (1, .int x1), (2, .int x2), (3, .long y5), (5, .int (x5 + 1))]) C 4 [1, 2, 3, 4, 0] dX0_weightOf_30 rfl (ki_1 _) (Nat.le_of_ble_eq_true rfl) rfl ?_
      refine ww_goto (pc := 33) (tgt := 5) C dX0_weightOf_33 (by decide) ?_
      exact hk5 y5 (x5 + 1) hf
theorem t_l_X0_weightOf_5 {G : oa_G} {O : oa_O} {A : Nat → Prop}  {res : Int64} (C : oa_C G cX0_weightOf 6 RX0 (some .long) rm_X0_weightOf O A) (x0 : Int32) (x1 : Int32) (x2 : Int32)    : ∀ (n : Nat) (x3 : Int64) (x5 : Int32), l_X0_weightOf_5 x0 x1 x2 n x3 x5 = some res → ww G 6 O A (oa_Q G O A (0, 0) (some (.long res)) (fun W1 => W1 = [])) (0, 0) 5 [(0, .int x0), (1, .int x1), (2, .int x2), (3, .long x3), (5, .int x5)] [] ([]) := by
  intro n
  induction n with
  | zero => intro x3 x5 hf; exact absurd (show (none : Option (Int64)) = some res from hf) (fun h => nomatch h)
  | succ n ih =>
    intro x3 x5 hf
    exact t_b_X0_weightOf_5 C x0 x1 x2  (fun x3 x5 => l_X0_weightOf_5 x0 x1 x2 n x3 x5)  (fun x3 x5 h => ih x3 x5 h) x3 x5 hf
theorem m_X0_weightOf (l : Launch) (O : oa_O)   (x0 : Int32) (x1 : Int32) (x2 : Int32) (res : Int64) (hf : f_X0_weightOf x0 x1 x2 = some res) : oa_M l yX0_weightOf cX0_weightOf 6 (some .long) rm_X0_weightOf O [.int x0, .int x1, .int x2] ([]) (some (.long res)) (fun W1 => W1 = []) := by
  refine oa_Mof (by decide) (Nat.le_of_ble_eq_true rfl) (fun G A hl C => ?_)
  subst hl
  have C : oa_C G cX0_weightOf 6 RX0 (some .long) rm_X0_weightOf O A := C
  have hf : f_X0_weightOf x0 x1 x2 = some res := hf
  delta f_X0_weightOf at hf
  show ww G 6 O A (oa_Q G O A (0, 0) (some (.long res)) (fun W1 => W1 = [])) (0, 0) 0 [(0, .int x0), (1, .int x1), (2, .int x2)] [] ([])
  refine ww_lconst (pc := 0) C dX0_weightOf_0 kl_1 ?_
  refine ww_lstore_n (pc := 1) (L' := [(0, .int x0), (1, .int x1), (2, .int x2), (3, .long 1)]) C [1, 2, 3, 0] dX0_weightOf_1 rfl (Nat.le_of_ble_eq_true rfl) rfl ?_
  refine ww_iconst (pc := 2) C dX0_weightOf_2 kc_0 ?_
  refine ww_istore (pc := 3) (L' := [(0, .int x0), (1, .int x1), (2, .int x2), (3, .long 1), (5, .int 0)]) C [1, 2, 3, 4, 0] dX0_weightOf_3 (Nat.le_of_ble_eq_true rfl) rfl ?_
  exact t_l_X0_weightOf_5 C x0 x1 x2    oa_fu 1 0 hf
theorem dX0_weigh_0 : decode cX0_weigh 0 = .ok (.aload_n 0, 1) := by decide +kernel
theorem dX0_weigh_1 : decode cX0_weigh 1 = .ok (.getfield 9, 3) := by decide +kernel
theorem dX0_weigh_4 : decode cX0_weigh 4 = .ok (.lconst 0, 1) := by decide +kernel
theorem dX0_weigh_5 : decode cX0_weigh 5 = .ok (.invokestatic 15, 3) := by decide +kernel
theorem dX0_weigh_8 : decode cX0_weigh 8 = .ok (.aload_n 0, 1) := by decide +kernel
theorem dX0_weigh_9 : decode cX0_weigh 9 = .ok (.lconst 1, 1) := by decide +kernel
theorem dX0_weigh_10 : decode cX0_weigh 10 = .ok (.putfield 21, 3) := by decide +kernel
theorem dX0_weigh_13 : decode cX0_weigh 13 = .ok (.iconst 1, 1) := by decide +kernel
theorem dX0_weigh_14 : decode cX0_weigh 14 = .ok (.istore_n 3, 1) := by decide +kernel
theorem dX0_weigh_15 : decode cX0_weigh 15 = .ok (.iload_n 3, 1) := by decide +kernel
theorem dX0_weigh_16 : decode cX0_weigh 16 = .ok (.aload_n 1, 1) := by decide +kernel
theorem dX0_weigh_17 : decode cX0_weigh 17 = .ok (.getfield 25, 3) := by decide +kernel
theorem dX0_weigh_20 : decode cX0_weigh 20 = .ok (.if_icmp .ge 21, 3) := by decide +kernel
theorem dX0_weigh_23 : decode cX0_weigh 23 = .ok (.aload_n 0, 1) := by decide +kernel
theorem dX0_weigh_24 : decode cX0_weigh 24 = .ok (.dup, 1) := by decide +kernel
theorem dX0_weigh_25 : decode cX0_weigh 25 = .ok (.getfield 21, 3) := by decide +kernel
theorem dX0_weigh_28 : decode cX0_weigh 28 = .ok (.ldc2_w 31, 3) := by decide +kernel
theorem dX0_weigh_31 : decode cX0_weigh 31 = .ok (.lmul, 1) := by decide +kernel
theorem dX0_weigh_32 : decode cX0_weigh 32 = .ok (.putfield 21, 3) := by decide +kernel
theorem dX0_weigh_35 : decode cX0_weigh 35 = .ok (.iinc 3 1, 3) := by decide +kernel
theorem dX0_weigh_38 : decode cX0_weigh 38 = .ok (.goto (-23), 3) := by decide +kernel
theorem dX0_weigh_41 : decode cX0_weigh 41 = .ok (.aload_n 1, 1) := by decide +kernel
theorem dX0_weigh_42 : decode cX0_weigh 42 = .ok (.invokevirtual 33, 3) := by decide +kernel
theorem dX0_weigh_45 : decode cX0_weigh 45 = .ok (.iconst 1, 1) := by decide +kernel
theorem dX0_weigh_46 : decode cX0_weigh 46 = .ok (.iload_n 2, 1) := by decide +kernel
theorem dX0_weigh_47 : decode cX0_weigh 47 = .ok (.ishl, 1) := by decide +kernel
theorem dX0_weigh_48 : decode cX0_weigh 48 = .ok (.iconst (-1), 1) := by decide +kernel
theorem dX0_weigh_49 : decode cX0_weigh 49 = .ok (.ixor, 1) := by decide +kernel
theorem dX0_weigh_50 : decode cX0_weigh 50 = .ok (.iand, 1) := by decide +kernel
theorem dX0_weigh_51 : decode cX0_weigh 51 = .ok (.istore_n 3, 1) := by decide +kernel
theorem dX0_weigh_52 : decode cX0_weigh 52 = .ok (.aload_n 1, 1) := by decide +kernel
theorem dX0_weigh_53 : decode cX0_weigh 53 = .ok (.invokevirtual 37, 3) := by decide +kernel
theorem dX0_weigh_56 : decode cX0_weigh 56 = .ok (.aload_n 1, 1) := by decide +kernel
theorem dX0_weigh_57 : decode cX0_weigh 57 = .ok (.iconst 3, 1) := by decide +kernel
theorem dX0_weigh_58 : decode cX0_weigh 58 = .ok (.invokevirtual 40, 3) := by decide +kernel
theorem dX0_weigh_61 : decode cX0_weigh 61 = .ok (.iconst (-1), 1) := by decide +kernel
theorem dX0_weigh_62 : decode cX0_weigh 62 = .ok (.ixor, 1) := by decide +kernel
theorem dX0_weigh_63 : decode cX0_weigh 63 = .ok (.iand, 1) := by decide +kernel
theorem dX0_weigh_64 : decode cX0_weigh 64 = .ok (.iload_n 3, 1) := by decide +kernel
theorem dX0_weigh_65 : decode cX0_weigh 65 = .ok (.iand, 1) := by decide +kernel
theorem dX0_weigh_66 : decode cX0_weigh 66 = .ok (.istore 4, 2) := by decide +kernel
theorem dX0_weigh_68 : decode cX0_weigh 68 = .ok (.aload_n 1, 1) := by decide +kernel
theorem dX0_weigh_69 : decode cX0_weigh 69 = .ok (.iload_n 2, 1) := by decide +kernel
theorem dX0_weigh_70 : decode cX0_weigh 70 = .ok (.invokevirtual 44, 3) := by decide +kernel
theorem dX0_weigh_73 : decode cX0_weigh 73 = .ok (.istore 5, 2) := by decide +kernel
theorem dX0_weigh_75 : decode cX0_weigh 75 = .ok (.iconst 0, 1) := by decide +kernel
theorem dX0_weigh_76 : decode cX0_weigh 76 = .ok (.istore 6, 2) := by decide +kernel
theorem dX0_weigh_78 : decode cX0_weigh 78 = .ok (.iload 6, 2) := by decide +kernel
theorem dX0_weigh_80 : decode cX0_weigh 80 = .ok (.iconst 1, 1) := by decide +kernel
theorem dX0_weigh_81 : decode cX0_weigh 81 = .ok (.aload_n 1, 1) := by decide +kernel
theorem dX0_weigh_82 : decode cX0_weigh 82 = .ok (.getfield 25, 3) := by decide +kernel
theorem dX0_weigh_85 : decode cX0_weigh 85 = .ok (.ishl, 1) := by decide +kernel
theorem dX0_weigh_86 : decode cX0_weigh 86 = .ok (.if_icmp .ge 88, 3) := by decide +kernel
theorem dX0_weigh_89 : decode cX0_weigh 89 = .ok (.iload 6, 2) := by decide +kernel
theorem dX0_weigh_91 : decode cX0_weigh 91 = .ok (.iload_n 3, 1) := by decide +kernel
theorem dX0_weigh_92 : decode cX0_weigh 92 = .ok (.iconst (-1), 1) := by decide +kernel
theorem dX0_weigh_93 : decode cX0_weigh 93 = .ok (.ixor, 1) := by decide +kernel
theorem dX0_weigh_94 : decode cX0_weigh 94 = .ok (.iand, 1) := by decide +kernel
theorem dX0_weigh_95 : decode cX0_weigh 95 = .ok (.ifCond .ne 73, 3) := by decide +kernel
theorem dX0_weigh_98 : decode cX0_weigh 98 = .ok (.aload_n 1, 1) := by decide +kernel
theorem dX0_weigh_99 : decode cX0_weigh 99 = .ok (.getfield 47, 3) := by decide +kernel
theorem dX0_weigh_102 : decode cX0_weigh 102 = .ok (.iconst 2, 1) := by decide +kernel
theorem dX0_weigh_103 : decode cX0_weigh 103 = .ok (.iaload, 1) := by decide +kernel
theorem dX0_weigh_104 : decode cX0_weigh 104 = .ok (.iload 6, 2) := by decide +kernel
theorem dX0_weigh_106 : decode cX0_weigh 106 = .ok (.invokestatic 51, 3) := by decide +kernel
theorem dX0_weigh_109 : decode cX0_weigh 109 = .ok (.aload_n 1, 1) := by decide +kernel
theorem dX0_weigh_110 : decode cX0_weigh 110 = .ok (.getfield 25, 3) := by decide +kernel
theorem dX0_weigh_113 : decode cX0_weigh 113 = .ok (.iconst 1, 1) := by decide +kernel
theorem dX0_weigh_114 : decode cX0_weigh 114 = .ok (.isub, 1) := by decide +kernel
theorem dX0_weigh_115 : decode cX0_weigh 115 = .ok (.invokestatic 56, 3) := by decide +kernel
theorem dX0_weigh_118 : decode cX0_weigh 118 = .ok (.lstore 7, 2) := by decide +kernel
theorem dX0_weigh_120 : decode cX0_weigh 120 = .ok (.lload 7, 2) := by decide +kernel
theorem dX0_weigh_122 : decode cX0_weigh 122 = .ok (.lconst 0, 1) := by decide +kernel
theorem dX0_weigh_123 : decode cX0_weigh 123 = .ok (.lcmp, 1) := by decide +kernel
theorem dX0_weigh_124 : decode cX0_weigh 124 = .ok (.ifCond .ne 8, 3) := by decide +kernel
theorem dX0_weigh_127 : decode cX0_weigh 127 = .ok (.bipush (-4), 2) := by decide +kernel
theorem dX0_weigh_129 : decode cX0_weigh 129 = .ok (.goto 18, 3) := by decide +kernel
theorem dX0_weigh_132 : decode cX0_weigh 132 = .ok (.aload_n 1, 1) := by decide +kernel
theorem dX0_weigh_133 : decode cX0_weigh 133 = .ok (.iload_n 2, 1) := by decide +kernel
theorem dX0_weigh_134 : decode cX0_weigh 134 = .ok (.iload 4, 2) := by decide +kernel
theorem dX0_weigh_136 : decode cX0_weigh 136 = .ok (.iload 6, 2) := by decide +kernel
theorem dX0_weigh_138 : decode cX0_weigh 138 = .ok (.ixor, 1) := by decide +kernel
theorem dX0_weigh_139 : decode cX0_weigh 139 = .ok (.iload 5, 2) := by decide +kernel
theorem dX0_weigh_141 : decode cX0_weigh 141 = .ok (.iconst (-1), 1) := by decide +kernel
theorem dX0_weigh_142 : decode cX0_weigh 142 = .ok (.ixor, 1) := by decide +kernel
theorem dX0_weigh_143 : decode cX0_weigh 143 = .ok (.iand, 1) := by decide +kernel
theorem dX0_weigh_144 : decode cX0_weigh 144 = .ok (.invokevirtual 60, 3) := by decide +kernel
theorem dX0_weigh_147 : decode cX0_weigh 147 = .ok (.istore 9, 2) := by decide +kernel
theorem dX0_weigh_149 : decode cX0_weigh 149 = .ok (.iload 9, 2) := by decide +kernel
theorem dX0_weigh_151 : decode cX0_weigh 151 = .ok (.bipush (-4), 2) := by decide +kernel
theorem dX0_weigh_153 : decode cX0_weigh 153 = .ok (.if_icmp .eq 15, 3) := by decide +kernel
theorem dX0_weigh_156 : decode cX0_weigh 156 = .ok (.aload_n 0, 1) := by decide +kernel
theorem dX0_weigh_157 : decode cX0_weigh 157 = .ok (.getfield 9, 3) := by decide +kernel
theorem dX0_weigh_160 : decode cX0_weigh 160 = .ok (.iload 9, 2) := by decide +kernel
theorem dX0_weigh_162 : decode cX0_weigh 162 = .ok (.dup2, 1) := by decide +kernel
theorem dX0_weigh_163 : decode cX0_weigh 163 = .ok (.laload, 1) := by decide +kernel
theorem dX0_weigh_164 : decode cX0_weigh 164 = .ok (.lload 7, 2) := by decide +kernel
theorem dX0_weigh_166 : decode cX0_weigh 166 = .ok (.ladd, 1) := by decide +kernel
theorem dX0_weigh_167 : decode cX0_weigh 167 = .ok (.lastore, 1) := by decide +kernel
theorem dX0_weigh_168 : decode cX0_weigh 168 = .ok (.iinc 6 1, 3) := by decide +kernel
theorem dX0_weigh_171 : decode cX0_weigh 171 = .ok (.goto (-93), 3) := by decide +kernel
theorem dX0_weigh_174 : decode cX0_weigh 174 = .ok (.return_, 1) := by decide +kernel
abbrev rm_X0_weigh : Room := { frames := 5, cells := 0, slots := 0, locals := 115 }
theorem t_b_X0_weigh_147 {G : oa_G} {O : oa_O} {A : Nat → Prop} {o : Nat → Nat} {h : Nat → Nat} {res : oa_J2} (C : oa_C G cX0_weigh 10 RX0 none rm_X0_weigh O A) (V : oa_I2) (x2 : Int32)  (J : oa_J2) (x3 : Int32) (x4 : Int32) (x5 : Int32) (x6 : Int32) (x7 : Int64) (s0 : Int32) (k78 : oa_J2 → Int32 → Option (oa_J2)) (hk78 : ∀ (b_J : oa_J2) (b_x6 : Int32), k78 b_J b_x6 = some res → ww G 10 O A (oa_Q G O A (0, 0) none (fun W1 => W1 = wd_HV O o h res V)) (0, 0) 78 [(0, .ref (o 0)), (1, .ref (h 0)), (2, .int x2), (3, .int x3), (4, .int x4), (5, .int x5), (6, .int b_x6)] [] (wd_HV O o h b_J V))  (hf : b_X0_weigh_147 V x2 k78 J x3 x4 x5 x6 x7 s0 = some res) : ww G 10 O A (oa_Q G O A (0, 0) none (fun W1 => W1 = wd_HV O o h res V)) (0, 0) 147 [(0, .ref (o 0)), (1, .ref (h 0)), (2, .int x2), (3, .int x3), (4, .int x4), (5, .int x5), (6, .int x6), (7, .long x7)] [.int s0] (wd_HV O o h J V) := by
  delta b_X0_weigh_147 at hf
  refine ww_istore (pc := 147) (L' := [(0, .ref (o 0)), (1, .ref (h 0)), (2, .int x2), (3, .int x3), (4, .int x4), (5, .int x5), (6, .int x6), (7, .long x7), (9, .int s0)]) C [1, 2, 3, 4, 5, 6, 7, 8, 0] dX0_weigh_147 (Nat.le_of_ble_eq_true rfl) rfl ?_
  refine ww_iload (pc := 149) (i := 9) C 8 dX0_weigh_149 rfl ?_
  refine ww_bipush (pc := 151) C dX0_weigh_151 kb_m4 ?_
  refine ww_icmp_eq (pc := 153) (tgt := 168) C dX0_weigh_153 (by decide) (fun c38 => ?_) (fun c38 => ?_)
  · have hf := oa_ifp c38 hf
    refine ww_iinc (pc := 168) (v := (x6 + 1)) (L' := [(0, .ref (o 0)), (1, .ref (h 0)), (2, .int x2), (3, .int x3), (4, .int x4), (5, .int x5), (6, .int (x6 + 1)), (7, .long x7), (9, .int s0)]) C 6 [1, 2, 3, 4, 5, 6, 0, 7, 8] dX0_weigh_168 rfl (ki_1 _) (Nat.le_of_ble_eq_true rfl) rfl ?_
    refine ww_goto (pc := 171) (tgt := 78) C dX0_weigh_171 (by decide) ?_
    refine ww_sub C [0, 1, 2, 3, 4, 5, 6] rfl ?_
    exact hk78 J (x6 + 1) hf
  · have hf := oa_ifn c38 hf
    refine ww_aload_n (pc := 156) (i := 0) C 0 dX0_weigh_156 rfl rfl ?_
    refine ww_get (pc := 157) C fl_X0_9 0 rfl rfl dX0_weigh_157 ?_
    refine ww_iload (pc := 160) (i := 9) C 8 dX0_weigh_160 rfl ?_
    refine ww_dup2 (pc := 162) C dX0_weigh_162 rfl rfl ?_
    obtain ⟨y39, e40, hf⟩ := oa_bind hf
    refine ww_lald (pc := 163) C 1 rfl e40 dX0_weigh_163 ?_
    refine ww_lload (pc := 164) (i := 7) C 7 dX0_weigh_164 rfl ?_
    refine ww_ladd (pc := 166) C dX0_weigh_166 ?_
    obtain ⟨g41, e42, hf⟩ := oa_bind hf
    obtain ⟨J43, e44, hf⟩ := oa_letE hf
    refine ww_last (pc := 167) C (fun Z => wd_HV O o h Z V) 1 rfl e42 e44 rfl dX0_weigh_167 ?_
    refine ww_iinc (pc := 168) (v := (x6 + 1)) (L' := [(0, .ref (o 0)), (1, .ref (h 0)), (2, .int x2), (3, .int x3), (4, .int x4), (5, .int x5), (6, .int (x6 + 1)), (7, .long x7), (9, .int s0)]) C 6 [1, 2, 3, 4, 5, 6, 0, 7, 8] dX0_weigh_168 rfl (ki_1 _) (Nat.le_of_ble_eq_true rfl) rfl ?_
    refine ww_goto (pc := 171) (tgt := 78) C dX0_weigh_171 (by decide) ?_
    refine ww_sub C [0, 1, 2, 3, 4, 5, 6] rfl ?_
    exact hk78 J43 (x6 + 1) hf
theorem t_b_X0_weigh_78 {G : oa_G} {O : oa_O} {A : Nat → Prop} {o : Nat → Nat} {h : Nat → Nat} {res : oa_J2} (C : oa_C G cX0_weigh 10 RX0 none rm_X0_weigh O A) (V : oa_I2) (x2 : Int32) (x3 : Int32) (x4 : Int32) (x5 : Int32)   (k78 : oa_J2 → Int32 → Option (oa_J2))  (hk78 : ∀ (b_J : oa_J2) (b_x6 : Int32), k78 b_J b_x6 = some res → ww G 10 O A (oa_Q G O A (0, 0) none (fun W1 => W1 = wd_HV O o h res V)) (0, 0) 78 [(0, .ref (o 0)), (1, .ref (h 0)), (2, .int x2), (3, .int x3), (4, .int x4), (5, .int x5), (6, .int b_x6)] [] (wd_HV O o h b_J V)) (J : oa_J2) (x6 : Int32) (hf : b_X0_weigh_78 V x2 x3 x4 x5 k78 J x6 = some res) : ww G 10 O A (oa_Q G O A (0, 0) none (fun W1 => W1 = wd_HV O o h res V)) (0, 0) 78 [(0, .ref (o 0)), (1, .ref (h 0)), (2, .int x2), (3, .int x3), (4, .int x4), (5, .int x5), (6, .int x6)] [] (wd_HV O o h J V) := by
  delta b_X0_weigh_78 at hf
  refine ww_iload (pc := 78) (i := 6) C 6 dX0_weigh_78 rfl ?_
  refine ww_iconst (pc := 80) C dX0_weigh_80 kc_1 ?_
  refine ww_aload_n (pc := 81) (i := 1) C 1 dX0_weigh_81 rfl rfl ?_
  refine ww_get (pc := 82) C fl_X0_25 2 rfl rfl dX0_weigh_82 ?_
  refine ww_ishl (pc := 85) C dX0_weigh_85 ?_
  refine ww_icmp_ge (pc := 86) (tgt := 174) C dX0_weigh_86 (by decide) (fun c24 => ?_) (fun c24 => ?_)
  · have hf := oa_ifp c24 hf
    obtain rfl := Option.some.inj hf
    exact ww_vret (pc := 174) C rfl dX0_weigh_174
  · have hf := oa_ifn c24 hf
    refine ww_iload (pc := 89) (i := 6) C 6 dX0_weigh_89 rfl ?_
    refine ww_iload_n (pc := 91) (i := 3) C 3 dX0_weigh_91 rfl rfl ?_
    refine ww_iconst (pc := 92) C dX0_weigh_92 kc_m1 ?_
    refine ww_ixor (pc := 93) C dX0_weigh_93 ?_
    refine ww_iand (pc := 94) C dX0_weigh_94 ?_
    refine ww_if_ne (pc := 95) (tgt := 168) C dX0_weigh_95 (by decide) (fun c25 => ?_) (fun c25 => ?_)
    · have hf := oa_ifn c25 hf
      refine ww_iinc (pc := 168) (v := (x6 + 1)) (L' := [(0, .ref (o 0)), (1, .ref (h 0)), (2, .int x2), (3, .int x3), (4, .int x4), (5, .int x5), (6, .int (x6 + 1))]) C 6 [1, 2, 3, 4, 5, 6, 0] dX0_weigh_168 rfl (ki_1 _) (Nat.le_of_ble_eq_true rfl) rfl ?_
      refine ww_goto (pc := 171) (tgt := 78) C dX0_weigh_171 (by decide) ?_
      exact hk78 J (x6 + 1) hf
    · have hf := oa_ifp c25 hf
      refine ww_aload_n (pc := 98) (i := 1) C 1 dX0_weigh_98 rfl rfl ?_
      refine ww_get (pc := 99) C fl_X0_47 2 rfl rfl dX0_weigh_99 ?_
      refine ww_iconst (pc := 102) C dX0_weigh_102 kc_2 ?_
      obtain ⟨y26, e27, hf⟩ := oa_bind hf
      refine ww_iald (pc := 103) C 3 rfl e27 dX0_weigh_103 ?_
      refine ww_iload (pc := 104) (i := 6) C 6 dX0_weigh_104 rfl ?_
      obtain ⟨y28, e29, hf⟩ := oa_bind hf
      refine ww_callS (pc := 106) (As := [.int x6]) (rest := [.int y26]) (wd := []) (ws' := wd_HV O o h J V) (rv := (some (.int y28))) C hY_J6_bitCount_0f7a4 hS_J6_bitCount_0f7a4 lk_X0_51 (m_J6_bitCount_0f7a4 _ O  x6 _ e29) [] rfl rfl rfl (oa_putS _ _ _ rfl) (fun _ h => h) ⟨rfl, rfl⟩ ⟨Nat.zero_le _, Nat.zero_le _⟩ ⟨Nat.le_of_ble_eq_true rfl, Nat.le_of_ble_eq_true rfl⟩ rfl (Nat.le_of_ble_eq_true rfl) rfl rfl dX0_weigh_106 ?_
      refine ww_aload_n (pc := 109) (i := 1) C 1 dX0_weigh_109 rfl rfl ?_
      refine ww_get (pc := 110) C fl_X0_25 2 rfl rfl dX0_weigh_110 ?_
      refine ww_iconst (pc := 113) C dX0_weigh_113 kc_1 ?_
      refine ww_isub (pc := 114) C dX0_weigh_114 ?_
      obtain ⟨y31, e32, hf⟩ := oa_bind hf
      refine ww_callS (pc := 115) (As := [.int y26, .int y28, .int ((V 5 0) - 1)]) (rest := []) (wd := []) (ws' := wd_HV O o h J V) (rv := (some (.long y31))) C hY_X0_weightOf hS_X0_weightOf lk_X0_56 (m_X0_weightOf _ O  y26 y28 ((V 5 0) - 1) _ e32) [] rfl rfl rfl (oa_putS _ _ _ rfl) (fun _ h => h) ⟨rfl, rfl⟩ ⟨Nat.zero_le _, Nat.zero_le _⟩ ⟨Nat.le_of_ble_eq_true rfl, Nat.le_of_ble_eq_true rfl⟩ rfl (Nat.le_of_ble_eq_true rfl) rfl rfl dX0_weigh_115 ?_
      refine ww_lstore (pc := 118) (L' := [(0, .ref (o 0)), (1, .ref (h 0)), (2, .int x2), (3, .int x3), (4, .int x4), (5, .int x5), (6, .int x6), (7, .long y31)]) C [1, 2, 3, 4, 5, 6, 7, 0] dX0_weigh_118 (Nat.le_of_ble_eq_true rfl) rfl ?_
      refine ww_lload (pc := 120) (i := 7) C 7 dX0_weigh_120 rfl ?_
      refine ww_lconst (pc := 122) C dX0_weigh_122 kl_0 ?_
      refine ww_lcmp (pc := 123) C dX0_weigh_123 ?_
      refine ww_if_ne (pc := 124) (tgt := 132) C dX0_weigh_124 (by decide) (fun c34 => ?_) (fun c34 => ?_)
      · have hf := oa_ifn c34 hf
        refine ww_aload_n (pc := 132) (i := 1) C 1 dX0_weigh_132 rfl rfl ?_
        refine ww_iload_n (pc := 133) (i := 2) C 2 dX0_weigh_133 rfl rfl ?_
        refine ww_iload (pc := 134) (i := 4) C 4 dX0_weigh_134 rfl ?_
        refine ww_iload (pc := 136) (i := 6) C 6 dX0_weigh_136 rfl ?_
        refine ww_ixor (pc := 138) C dX0_weigh_138 ?_
        refine ww_iload (pc := 139) (i := 5) C 5 dX0_weigh_139 rfl ?_
        refine ww_iconst (pc := 141) C dX0_weigh_141 kc_m1 ?_
        refine ww_ixor (pc := 142) C dX0_weigh_142 ?_
        refine ww_iand (pc := 143) C dX0_weigh_143 ?_
        obtain ⟨y35, e36, hf⟩ := oa_bind hf
        refine ww_callV (pc := 144) (As := [.int x2, .int ((x4 ^^^ x6) &&& (x5 ^^^ (-1)))]) (rest := []) (wd := wd_V O h V) (ws' := wd_HV O o h J V) (rv := (some (.int y35))) C hY_X5_choice hV_X5_choice lk_X0_60 (m_X5_choice _ O h V x2 ((x4 ^^^ x6) &&& (x5 ^^^ (-1))) _ e36) [2, 3, 4, 5, 6, 7] 2 rfl rfl rfl rfl rfl (oa_putS _ _ _ rfl) (fun _ h => h) ⟨rfl, rfl⟩ ⟨Nat.zero_le _, Nat.zero_le _⟩ ⟨Nat.le_of_ble_eq_true rfl, Nat.le_of_ble_eq_true rfl⟩ rfl (Nat.le_of_ble_eq_true rfl) rfl rfl dX0_weigh_144 ?_
        exact t_b_X0_weigh_147 C V x2 J x3 x4 x5 x6 y31 y35 k78 hk78 hf
      · have hf := oa_ifp c34 hf
        refine ww_bipush (pc := 127) C dX0_weigh_127 kb_m4 ?_
        refine ww_goto (pc := 129) (tgt := 147) C dX0_weigh_129 (by decide) ?_
        exact t_b_X0_weigh_147 C V x2 J x3 x4 x5 x6 y31 (-4) k78 hk78 hf
theorem t_l_X0_weigh_78 {G : oa_G} {O : oa_O} {A : Nat → Prop} {o : Nat → Nat} {h : Nat → Nat} {res : oa_J2} (C : oa_C G cX0_weigh 10 RX0 none rm_X0_weigh O A) (V : oa_I2) (x2 : Int32) (x3 : Int32) (x4 : Int32) (x5 : Int32)   : ∀ (n : Nat) (J : oa_J2) (x6 : Int32), l_X0_weigh_78 V x2 x3 x4 x5 n J x6 = some res → ww G 10 O A (oa_Q G O A (0, 0) none (fun W1 => W1 = wd_HV O o h res V)) (0, 0) 78 [(0, .ref (o 0)), (1, .ref (h 0)), (2, .int x2), (3, .int x3), (4, .int x4), (5, .int x5), (6, .int x6)] [] (wd_HV O o h J V) := by
  intro n
  induction n with
  | zero => intro J x6 hf; exact absurd (show (none : Option (oa_J2)) = some res from hf) (fun h => nomatch h)
  | succ n ih =>
    intro J x6 hf
    exact t_b_X0_weigh_78 C V x2 x3 x4 x5 (fun J x6 => l_X0_weigh_78 V x2 x3 x4 x5 n J x6)  (fun J x6 h => ih J x6 h) J x6 hf
theorem t_b_X0_weigh_15 {G : oa_G} {O : oa_O} {A : Nat → Prop} {o : Nat → Nat} {h : Nat → Nat} {res : oa_J2} (C : oa_C G cX0_weigh 10 RX0 none rm_X0_weigh O A) (V : oa_I2) (x2 : Int32)    (k15 : oa_J2 → Int32 → Option (oa_J2))  (hk15 : ∀ (b_J : oa_J2) (b_x3 : Int32), k15 b_J b_x3 = some res → ww G 10 O A (oa_Q G O A (0, 0) none (fun W1 => W1 = wd_HV O o h res V)) (0, 0) 15 [(0, .ref (o 0)), (1, .ref (h 0)), (2, .int x2), (3, .int b_x3)] [] (wd_HV O o h b_J V)) (J : oa_J2) (x3 : Int32) (hf : b_X0_weigh_15 V x2 k15 J x3 = some res) : ww G 10 O A (oa_Q G O A (0, 0) none (fun W1 => W1 = wd_HV O o h res V)) (0, 0) 15 [(0, .ref (o 0)), (1, .ref (h 0)), (2, .int x2), (3, .int x3)] [] (wd_HV O o h J V) := by
  delta b_X0_weigh_15 at hf
  refine ww_iload_n (pc := 15) (i := 3) C 3 dX0_weigh_15 rfl rfl ?_
  refine ww_aload_n (pc := 16) (i := 1) C 1 dX0_weigh_16 rfl rfl ?_
  refine ww_get (pc := 17) C fl_X0_25 2 rfl rfl dX0_weigh_17 ?_
  refine ww_icmp_ge (pc := 20) (tgt := 41) C dX0_weigh_20 (by decide) (fun c5 => ?_) (fun c5 => ?_)
  · have hf := oa_ifp c5 hf
    refine ww_aload_n (pc := 41) (i := 1) C 1 dX0_weigh_41 rfl rfl ?_
    obtain ⟨y6, e7, hf⟩ := oa_bind hf
    refine ww_callV (pc := 42) (As := []) (rest := []) (wd := wd_V O h V) (ws' := wd_HV O o h J V) (rv := (some (.int y6))) C hY_X5_everybody hV_X5_everybody lk_X0_33 (m_X5_everybody _ O h V _ e7) [2, 3, 4, 5, 6, 7] 2 rfl rfl rfl rfl rfl (oa_putS _ _ _ rfl) (fun _ h => h) ⟨rfl, rfl⟩ ⟨Nat.zero_le _, Nat.zero_le _⟩ ⟨Nat.le_of_ble_eq_true rfl, Nat.le_of_ble_eq_true rfl⟩ rfl (Nat.le_of_ble_eq_true rfl) rfl rfl dX0_weigh_42 ?_
    refine ww_iconst (pc := 45) C dX0_weigh_45 kc_1 ?_
    refine ww_iload_n (pc := 46) (i := 2) C 2 dX0_weigh_46 rfl rfl ?_
    refine ww_ishl (pc := 47) C dX0_weigh_47 ?_
    refine ww_iconst (pc := 48) C dX0_weigh_48 kc_m1 ?_
    refine ww_ixor (pc := 49) C dX0_weigh_49 ?_
    refine ww_iand (pc := 50) C dX0_weigh_50 ?_
    obtain ⟨y9, e10, hf⟩ := oa_letE hf
    refine ww_topi C e10 ?_
    refine ww_istore_n (pc := 51) (L' := [(0, .ref (o 0)), (1, .ref (h 0)), (2, .int x2), (3, .int y9)]) C [1, 2, 3, 0] dX0_weigh_51 rfl (Nat.le_of_ble_eq_true rfl) rfl ?_
    refine ww_aload_n (pc := 52) (i := 1) C 1 dX0_weigh_52 rfl rfl ?_
    obtain ⟨y11, e12, hf⟩ := oa_bind hf
    refine ww_callV (pc := 53) (As := []) (rest := []) (wd := wd_V O h V) (ws' := wd_HV O o h J V) (rv := (some (.int y11))) C hY_X5_free hV_X5_free lk_X0_37 (m_X5_free _ O h V _ e12) [2, 3, 4, 5, 6, 7] 2 rfl rfl rfl rfl rfl (oa_putS _ _ _ rfl) (fun _ h => h) ⟨rfl, rfl⟩ ⟨Nat.zero_le _, Nat.zero_le _⟩ ⟨Nat.le_of_ble_eq_true rfl, Nat.le_of_ble_eq_true rfl⟩ rfl (Nat.le_of_ble_eq_true rfl) rfl rfl dX0_weigh_53 ?_
    refine ww_aload_n (pc := 56) (i := 1) C 1 dX0_weigh_56 rfl rfl ?_
    refine ww_iconst (pc := 57) C dX0_weigh_57 kc_3 ?_
    obtain ⟨y14, e15, hf⟩ := oa_bind hf
    refine ww_callV (pc := 58) (As := [.int 3]) (rest := [.int y11]) (wd := wd_V O h V) (ws' := wd_HV O o h J V) (rv := (some (.int y14))) C hY_X5_allOf hV_X5_allOf lk_X0_40 (m_X5_allOf _ O h V 3 _ e15) [2, 3, 4, 5, 6, 7] 2 rfl rfl rfl rfl rfl (oa_putS _ _ _ rfl) (fun _ h => h) ⟨rfl, rfl⟩ ⟨Nat.zero_le _, Nat.zero_le _⟩ ⟨Nat.le_of_ble_eq_true rfl, Nat.le_of_ble_eq_true rfl⟩ rfl (Nat.le_of_ble_eq_true rfl) rfl rfl dX0_weigh_58 ?_
    refine ww_iconst (pc := 61) C dX0_weigh_61 kc_m1 ?_
    refine ww_ixor (pc := 62) C dX0_weigh_62 ?_
    refine ww_iand (pc := 63) C dX0_weigh_63 ?_
    refine ww_iload_n (pc := 64) (i := 3) C 3 dX0_weigh_64 rfl rfl ?_
    refine ww_iand (pc := 65) C dX0_weigh_65 ?_
    obtain ⟨y17, e18, hf⟩ := oa_letE hf
    refine ww_topi C e18 ?_
    refine ww_istore (pc := 66) (L' := [(0, .ref (o 0)), (1, .ref (h 0)), (2, .int x2), (3, .int y9), (4, .int y17)]) C [1, 2, 3, 4, 0] dX0_weigh_66 (Nat.le_of_ble_eq_true rfl) rfl ?_
    refine ww_aload_n (pc := 68) (i := 1) C 1 dX0_weigh_68 rfl rfl ?_
    refine ww_iload_n (pc := 69) (i := 2) C 2 dX0_weigh_69 rfl rfl ?_
    obtain ⟨y19, e20, hf⟩ := oa_bind hf
    refine ww_callV (pc := 70) (As := [.int x2]) (rest := []) (wd := wd_V O h V) (ws' := wd_HV O o h J V) (rv := (some (.int y19))) C hY_X5_angryWith hV_X5_angryWith lk_X0_44 (m_X5_angryWith _ O h V x2 _ e20) [2, 3, 4, 5, 6, 7] 2 rfl rfl rfl rfl rfl (oa_putS _ _ _ rfl) (fun _ h => h) ⟨rfl, rfl⟩ ⟨Nat.zero_le _, Nat.zero_le _⟩ ⟨Nat.le_of_ble_eq_true rfl, Nat.le_of_ble_eq_true rfl⟩ rfl (Nat.le_of_ble_eq_true rfl) rfl rfl dX0_weigh_70 ?_
    refine ww_istore (pc := 73) (L' := [(0, .ref (o 0)), (1, .ref (h 0)), (2, .int x2), (3, .int y9), (4, .int y17), (5, .int y19)]) C [1, 2, 3, 4, 5, 0] dX0_weigh_73 (Nat.le_of_ble_eq_true rfl) rfl ?_
    refine ww_iconst (pc := 75) C dX0_weigh_75 kc_0 ?_
    refine ww_istore (pc := 76) (L' := [(0, .ref (o 0)), (1, .ref (h 0)), (2, .int x2), (3, .int y9), (4, .int y17), (5, .int y19), (6, .int 0)]) C [1, 2, 3, 4, 5, 6, 0] dX0_weigh_76 (Nat.le_of_ble_eq_true rfl) rfl ?_
    exact t_l_X0_weigh_78 C V x2 y9 y17 y19   oa_fu J 0 hf
  · have hf := oa_ifn c5 hf
    refine ww_aload_n (pc := 23) (i := 0) C 0 dX0_weigh_23 rfl rfl ?_
    refine ww_dup (pc := 24) C dX0_weigh_24 rfl ?_
    refine ww_get (pc := 25) C fl_X0_21 0 rfl rfl dX0_weigh_25 ?_
    refine ww_ldc2 (pc := 28) C cw_X0_31 dX0_weigh_28 ?_
    refine ww_lmul (pc := 31) C dX0_weigh_31 ?_
    obtain ⟨J22, e23, hf⟩ := oa_letE hf
    refine ww_put (pc := 32) C fl_X0_21 (fun Z => wd_HV O o h Z V) 0 rfl rfl rfl (Nat.le_of_ble_eq_true rfl) e23 rfl dX0_weigh_32 ?_
    refine ww_iinc (pc := 35) (v := (x3 + 1)) (L' := [(0, .ref (o 0)), (1, .ref (h 0)), (2, .int x2), (3, .int (x3 + 1))]) C 3 [1, 2, 3, 0] dX0_weigh_35 rfl (ki_1 _) (Nat.le_of_ble_eq_true rfl) rfl ?_
    refine ww_goto (pc := 38) (tgt := 15) C dX0_weigh_38 (by decide) ?_
    exact hk15 J22 (x3 + 1) hf
theorem t_l_X0_weigh_15 {G : oa_G} {O : oa_O} {A : Nat → Prop} {o : Nat → Nat} {h : Nat → Nat} {res : oa_J2} (C : oa_C G cX0_weigh 10 RX0 none rm_X0_weigh O A) (V : oa_I2) (x2 : Int32)    : ∀ (n : Nat) (J : oa_J2) (x3 : Int32), l_X0_weigh_15 V x2 n J x3 = some res → ww G 10 O A (oa_Q G O A (0, 0) none (fun W1 => W1 = wd_HV O o h res V)) (0, 0) 15 [(0, .ref (o 0)), (1, .ref (h 0)), (2, .int x2), (3, .int x3)] [] (wd_HV O o h J V) := by
  intro n
  induction n with
  | zero => intro J x3 hf; exact absurd (show (none : Option (oa_J2)) = some res from hf) (fun h => nomatch h)
  | succ n ih =>
    intro J x3 hf
    exact t_b_X0_weigh_15 C V x2  (fun J x3 => l_X0_weigh_15 V x2 n J x3)  (fun J x3 h => ih J x3 h) J x3 hf
theorem m_X0_weigh (l : Launch) (O : oa_O) (o : Nat → Nat) (h : Nat → Nat) (J : oa_J2) (V : oa_I2) (x2 : Int32) (res : oa_J2) (hf : f_X0_weigh J V x2 = some res) : oa_M l yX0_weigh cX0_weigh 10 none rm_X0_weigh O [.ref (o 0), .ref (h 0), .int x2] (wd_HV O o h J V) none (fun W1 => W1 = wd_HV O o h res V) := by
  refine oa_Mof (by decide) (Nat.le_of_ble_eq_true rfl) (fun G A hl C => ?_)
  subst hl
  have C : oa_C G cX0_weigh 10 RX0 none rm_X0_weigh O A := C
  have hf : f_X0_weigh J V x2 = some res := hf
  delta f_X0_weigh at hf
  show ww G 10 O A (oa_Q G O A (0, 0) none (fun W1 => W1 = wd_HV O o h res V)) (0, 0) 0 [(0, .ref (o 0)), (1, .ref (h 0)), (2, .int x2)] [] (wd_HV O o h J V)
  refine ww_aload_n (pc := 0) (i := 0) C 0 dX0_weigh_0 rfl rfl ?_
  refine ww_get (pc := 1) C fl_X0_9 0 rfl rfl dX0_weigh_1 ?_
  refine ww_lconst (pc := 4) C dX0_weigh_4 kl_0 ?_
  obtain ⟨J1, e2, hf⟩ := oa_letE hf
  refine ww_fillL (pc := 5) (rest := []) C lk_X0_15 (fun Z => wd_HV O o h Z V) 1 rfl e2 rfl (by decide) ⟨Nat.le_of_ble_eq_true rfl, Nat.le_of_ble_eq_true rfl⟩ ⟨Nat.zero_le _, Nat.zero_le _⟩ (Nat.le_of_ble_eq_true rfl) dX0_weigh_5 ?_
  refine ww_aload_n (pc := 8) (i := 0) C 0 dX0_weigh_8 rfl rfl ?_
  refine ww_lconst (pc := 9) C dX0_weigh_9 kl_1 ?_
  obtain ⟨J3, e4, hf⟩ := oa_letE hf
  refine ww_put (pc := 10) C fl_X0_21 (fun Z => wd_HV O o h Z V) 0 rfl rfl rfl (Nat.le_of_ble_eq_true rfl) e4 rfl dX0_weigh_10 ?_
  refine ww_iconst (pc := 13) C dX0_weigh_13 kc_1 ?_
  refine ww_istore_n (pc := 14) (L' := [(0, .ref (o 0)), (1, .ref (h 0)), (2, .int x2), (3, .int 1)]) C [1, 2, 3, 0] dX0_weigh_14 rfl (Nat.le_of_ble_eq_true rfl) rfl ?_
  exact t_l_X0_weigh_15 C V x2    oa_fu J3 1 hf
theorem dX1_same_0 : decode cX1_same 0 = .ok (.iconst 0, 1) := by decide +kernel
theorem dX1_same_1 : decode cX1_same 1 = .ok (.istore_n 3, 1) := by decide +kernel
theorem dX1_same_2 : decode cX1_same 2 = .ok (.iload_n 3, 1) := by decide +kernel
theorem dX1_same_3 : decode cX1_same 3 = .ok (.bipush 6, 2) := by decide +kernel
theorem dX1_same_5 : decode cX1_same 5 = .ok (.if_icmp .ge 36, 3) := by decide +kernel
theorem dX1_same_8 : decode cX1_same 8 = .ok (.aload_n 0, 1) := by decide +kernel
theorem dX1_same_9 : decode cX1_same 9 = .ok (.getfield 9, 3) := by decide +kernel
theorem dX1_same_12 : decode cX1_same 12 = .ok (.iload_n 1, 1) := by decide +kernel
theorem dX1_same_13 : decode cX1_same 13 = .ok (.bipush 6, 2) := by decide +kernel
theorem dX1_same_15 : decode cX1_same 15 = .ok (.imul, 1) := by decide +kernel
theorem dX1_same_16 : decode cX1_same 16 = .ok (.iload_n 3, 1) := by decide +kernel
theorem dX1_same_17 : decode cX1_same 17 = .ok (.iadd, 1) := by decide +kernel
theorem dX1_same_18 : decode cX1_same 18 = .ok (.iaload, 1) := by decide +kernel
theorem dX1_same_19 : decode cX1_same 19 = .ok (.aload_n 0, 1) := by decide +kernel
theorem dX1_same_20 : decode cX1_same 20 = .ok (.getfield 9, 3) := by decide +kernel
theorem dX1_same_23 : decode cX1_same 23 = .ok (.iload_n 2, 1) := by decide +kernel
theorem dX1_same_24 : decode cX1_same 24 = .ok (.bipush 6, 2) := by decide +kernel
theorem dX1_same_26 : decode cX1_same 26 = .ok (.imul, 1) := by decide +kernel
theorem dX1_same_27 : decode cX1_same 27 = .ok (.iload_n 3, 1) := by decide +kernel
theorem dX1_same_28 : decode cX1_same 28 = .ok (.iadd, 1) := by decide +kernel
theorem dX1_same_29 : decode cX1_same 29 = .ok (.iaload, 1) := by decide +kernel
theorem dX1_same_30 : decode cX1_same 30 = .ok (.if_icmp .eq 5, 3) := by decide +kernel
theorem dX1_same_33 : decode cX1_same 33 = .ok (.iconst 0, 1) := by decide +kernel
theorem dX1_same_34 : decode cX1_same 34 = .ok (.ireturn, 1) := by decide +kernel
theorem dX1_same_35 : decode cX1_same 35 = .ok (.iinc 3 1, 3) := by decide +kernel
theorem dX1_same_38 : decode cX1_same 38 = .ok (.goto (-36), 3) := by decide +kernel
theorem dX1_same_41 : decode cX1_same 41 = .ok (.iconst 1, 1) := by decide +kernel
theorem dX1_same_42 : decode cX1_same 42 = .ok (.ireturn, 1) := by decide +kernel
abbrev rm_X1_same : Room := { frames := 0, cells := 0, slots := 0, locals := 0 }
theorem t_b_X1_same_2 {G : oa_G} {O : oa_O} {A : Nat → Prop} {o : Nat → Nat} {res : Int32} (C : oa_C G cX1_same 4 RX1 (some .boolean) rm_X1_same O A) (P : oa_I2) (x1 : Int32) (x2 : Int32)    (k2 : Int32 → Option (Int32))  (hk2 : ∀ (b_x3 : Int32), k2 b_x3 = some res → ww G 4 O A (oa_Q G O A (0, 0) (some (.int res)) (fun W1 => W1 = wd_P O o P)) (0, 0) 2 [(0, .ref (o 0)), (1, .int x1), (2, .int x2), (3, .int b_x3)] [] (wd_P O o P)) (x3 : Int32) (hf : b_X1_same_2 P x1 x2 k2 x3 = some res) : ww G 4 O A (oa_Q G O A (0, 0) (some (.int res)) (fun W1 => W1 = wd_P O o P)) (0, 0) 2 [(0, .ref (o 0)), (1, .int x1), (2, .int x2), (3, .int x3)] [] (wd_P O o P) := by
  delta b_X1_same_2 at hf
  refine ww_iload_n (pc := 2) (i := 3) C 3 dX1_same_2 rfl rfl ?_
  refine ww_bipush (pc := 3) C dX1_same_3 kb_6 ?_
  refine ww_icmp_ge (pc := 5) (tgt := 41) C dX1_same_5 (by decide) (fun c1 => ?_) (fun c1 => ?_)
  · have hf := oa_ifp c1 hf
    refine ww_iconst (pc := 41) C dX1_same_41 kc_1 ?_
    obtain rfl := Option.some.inj hf
    exact ww_zret (pc := 42) C kz_1 rfl dX1_same_42
  · have hf := oa_ifn c1 hf
    refine ww_aload_n (pc := 8) (i := 0) C 0 dX1_same_8 rfl rfl ?_
    refine ww_get (pc := 9) C fl_X1_9 0 rfl rfl dX1_same_9 ?_
    refine ww_iload_n (pc := 12) (i := 1) C 1 dX1_same_12 rfl rfl ?_
    refine ww_bipush (pc := 13) C dX1_same_13 kb_6 ?_
    refine ww_imul (pc := 15) C dX1_same_15 ?_
    refine ww_iload_n (pc := 16) (i := 3) C 3 dX1_same_16 rfl rfl ?_
    refine ww_iadd (pc := 17) C dX1_same_17 ?_
    obtain ⟨y2, e3, hf⟩ := oa_bind hf
    refine ww_iald (pc := 18) C 1 rfl e3 dX1_same_18 ?_
    refine ww_aload_n (pc := 19) (i := 0) C 0 dX1_same_19 rfl rfl ?_
    refine ww_get (pc := 20) C fl_X1_9 0 rfl rfl dX1_same_20 ?_
    refine ww_iload_n (pc := 23) (i := 2) C 2 dX1_same_23 rfl rfl ?_
    refine ww_bipush (pc := 24) C dX1_same_24 kb_6 ?_
    refine ww_imul (pc := 26) C dX1_same_26 ?_
    refine ww_iload_n (pc := 27) (i := 3) C 3 dX1_same_27 rfl rfl ?_
    refine ww_iadd (pc := 28) C dX1_same_28 ?_
    obtain ⟨y4, e5, hf⟩ := oa_bind hf
    refine ww_iald (pc := 29) C 1 rfl e5 dX1_same_29 ?_
    refine ww_icmp_eq (pc := 30) (tgt := 35) C dX1_same_30 (by decide) (fun c6 => ?_) (fun c6 => ?_)
    · have hf := oa_ifp c6 hf
      refine ww_iinc (pc := 35) (v := (x3 + 1)) (L' := [(0, .ref (o 0)), (1, .int x1), (2, .int x2), (3, .int (x3 + 1))]) C 3 [1, 2, 3, 0] dX1_same_35 rfl (ki_1 _) (Nat.le_of_ble_eq_true rfl) rfl ?_
      refine ww_goto (pc := 38) (tgt := 2) C dX1_same_38 (by decide) ?_
      exact hk2 (x3 + 1) hf
    · have hf := oa_ifn c6 hf
      refine ww_iconst (pc := 33) C dX1_same_33 kc_0 ?_
      obtain rfl := Option.some.inj hf
      exact ww_zret (pc := 34) C kz_0 rfl dX1_same_34
theorem t_l_X1_same_2 {G : oa_G} {O : oa_O} {A : Nat → Prop} {o : Nat → Nat} {res : Int32} (C : oa_C G cX1_same 4 RX1 (some .boolean) rm_X1_same O A) (P : oa_I2) (x1 : Int32) (x2 : Int32)    : ∀ (n : Nat) (x3 : Int32), l_X1_same_2 P x1 x2 n x3 = some res → ww G 4 O A (oa_Q G O A (0, 0) (some (.int res)) (fun W1 => W1 = wd_P O o P)) (0, 0) 2 [(0, .ref (o 0)), (1, .int x1), (2, .int x2), (3, .int x3)] [] (wd_P O o P) := by
  intro n
  induction n with
  | zero => intro x3 hf; exact absurd (show (none : Option (Int32)) = some res from hf) (fun h => nomatch h)
  | succ n ih =>
    intro x3 hf
    exact t_b_X1_same_2 C P x1 x2  (fun x3 => l_X1_same_2 P x1 x2 n x3)  (fun x3 h => ih x3 h) x3 hf
theorem m_X1_same (l : Launch) (O : oa_O) (o : Nat → Nat) (P : oa_I2) (x1 : Int32) (x2 : Int32) (res : Int32) (hf : f_X1_same P x1 x2 = some res) : oa_M l yX1_same cX1_same 4 (some .boolean) rm_X1_same O [.ref (o 0), .int x1, .int x2] (wd_P O o P) (some (.int res)) (fun W1 => W1 = wd_P O o P) := by
  refine oa_Mof (by decide) (Nat.le_of_ble_eq_true rfl) (fun G A hl C => ?_)
  subst hl
  have C : oa_C G cX1_same 4 RX1 (some .boolean) rm_X1_same O A := C
  have hf : f_X1_same P x1 x2 = some res := hf
  delta f_X1_same at hf
  show ww G 4 O A (oa_Q G O A (0, 0) (some (.int res)) (fun W1 => W1 = wd_P O o P)) (0, 0) 0 [(0, .ref (o 0)), (1, .int x1), (2, .int x2)] [] (wd_P O o P)
  refine ww_iconst (pc := 0) C dX1_same_0 kc_0 ?_
  refine ww_istore_n (pc := 1) (L' := [(0, .ref (o 0)), (1, .int x1), (2, .int x2), (3, .int 0)]) C [1, 2, 3, 0] dX1_same_1 rfl (Nat.le_of_ble_eq_true rfl) rfl ?_
  exact t_l_X1_same_2 C P x1 x2    oa_fu 0 hf
theorem dX1_hasLike_0 : decode cX1_hasLike 0 = .ok (.iconst 0, 1) := by decide +kernel
theorem dX1_hasLike_1 : decode cX1_hasLike 1 = .ok (.istore_n 3, 1) := by decide +kernel
theorem dX1_hasLike_2 : decode cX1_hasLike 2 = .ok (.iload_n 3, 1) := by decide +kernel
theorem dX1_hasLike_3 : decode cX1_hasLike 3 = .ok (.iload_n 2, 1) := by decide +kernel
theorem dX1_hasLike_4 : decode cX1_hasLike 4 = .ok (.if_icmp .ge 20, 3) := by decide +kernel
theorem dX1_hasLike_7 : decode cX1_hasLike 7 = .ok (.aload_n 0, 1) := by decide +kernel
theorem dX1_hasLike_8 : decode cX1_hasLike 8 = .ok (.iload_n 3, 1) := by decide +kernel
theorem dX1_hasLike_9 : decode cX1_hasLike 9 = .ok (.iload_n 1, 1) := by decide +kernel
theorem dX1_hasLike_10 : decode cX1_hasLike 10 = .ok (.invokevirtual 29, 3) := by decide +kernel
theorem dX1_hasLike_13 : decode cX1_hasLike 13 = .ok (.ifCond .eq 5, 3) := by decide +kernel
theorem dX1_hasLike_16 : decode cX1_hasLike 16 = .ok (.iconst 1, 1) := by decide +kernel
theorem dX1_hasLike_17 : decode cX1_hasLike 17 = .ok (.ireturn, 1) := by decide +kernel
theorem dX1_hasLike_18 : decode cX1_hasLike 18 = .ok (.iinc 3 1, 3) := by decide +kernel
theorem dX1_hasLike_21 : decode cX1_hasLike 21 = .ok (.goto (-19), 3) := by decide +kernel
theorem dX1_hasLike_24 : decode cX1_hasLike 24 = .ok (.iconst 0, 1) := by decide +kernel
theorem dX1_hasLike_25 : decode cX1_hasLike 25 = .ok (.ireturn, 1) := by decide +kernel
abbrev rm_X1_hasLike : Room := { frames := 1, cells := 0, slots := 0, locals := 23 }
theorem t_b_X1_hasLike_2 {G : oa_G} {O : oa_O} {A : Nat → Prop} {o : Nat → Nat} {res : Int32} (C : oa_C G cX1_hasLike 4 RX1 (some .boolean) rm_X1_hasLike O A) (P : oa_I2) (x1 : Int32) (x2 : Int32)    (k2 : Int32 → Option (Int32))  (hk2 : ∀ (b_x3 : Int32), k2 b_x3 = some res → ww G 4 O A (oa_Q G O A (0, 0) (some (.int res)) (fun W1 => W1 = wd_P O o P)) (0, 0) 2 [(0, .ref (o 0)), (1, .int x1), (2, .int x2), (3, .int b_x3)] [] (wd_P O o P)) (x3 : Int32) (hf : b_X1_hasLike_2 P x1 x2 k2 x3 = some res) : ww G 4 O A (oa_Q G O A (0, 0) (some (.int res)) (fun W1 => W1 = wd_P O o P)) (0, 0) 2 [(0, .ref (o 0)), (1, .int x1), (2, .int x2), (3, .int x3)] [] (wd_P O o P) := by
  delta b_X1_hasLike_2 at hf
  refine ww_iload_n (pc := 2) (i := 3) C 3 dX1_hasLike_2 rfl rfl ?_
  refine ww_iload_n (pc := 3) (i := 2) C 2 dX1_hasLike_3 rfl rfl ?_
  refine ww_icmp_ge (pc := 4) (tgt := 24) C dX1_hasLike_4 (by decide) (fun c1 => ?_) (fun c1 => ?_)
  · have hf := oa_ifp c1 hf
    refine ww_iconst (pc := 24) C dX1_hasLike_24 kc_0 ?_
    obtain rfl := Option.some.inj hf
    exact ww_zret (pc := 25) C kz_0 rfl dX1_hasLike_25
  · have hf := oa_ifn c1 hf
    refine ww_aload_n (pc := 7) (i := 0) C 0 dX1_hasLike_7 rfl rfl ?_
    refine ww_iload_n (pc := 8) (i := 3) C 3 dX1_hasLike_8 rfl rfl ?_
    refine ww_iload_n (pc := 9) (i := 1) C 1 dX1_hasLike_9 rfl rfl ?_
    obtain ⟨y2, e3, hf⟩ := oa_bind hf
    refine ww_callV (pc := 10) (As := [.int x3, .int x1]) (rest := []) (wd := wd_P O o P) (ws' := wd_P O o P) (rv := (some (.int y2))) C hY_X1_same hV_X1_same lk_X1_29 (m_X1_same _ O o P x3 x1 _ e3) [0, 1] 0 rfl rfl rfl rfl rfl (oa_putS _ _ _ rfl) (fun _ h => h) ⟨rfl, rfl⟩ ⟨Nat.zero_le _, Nat.zero_le _⟩ ⟨Nat.le_of_ble_eq_true rfl, Nat.le_of_ble_eq_true rfl⟩ rfl (Nat.le_of_ble_eq_true rfl) rfl rfl dX1_hasLike_10 ?_
    refine ww_if_eq (pc := 13) (tgt := 18) C dX1_hasLike_13 (by decide) (fun c5 => ?_) (fun c5 => ?_)
    · have hf := oa_ifp c5 hf
      refine ww_iinc (pc := 18) (v := (x3 + 1)) (L' := [(0, .ref (o 0)), (1, .int x1), (2, .int x2), (3, .int (x3 + 1))]) C 3 [1, 2, 3, 0] dX1_hasLike_18 rfl (ki_1 _) (Nat.le_of_ble_eq_true rfl) rfl ?_
      refine ww_goto (pc := 21) (tgt := 2) C dX1_hasLike_21 (by decide) ?_
      exact hk2 (x3 + 1) hf
    · have hf := oa_ifn c5 hf
      refine ww_iconst (pc := 16) C dX1_hasLike_16 kc_1 ?_
      obtain rfl := Option.some.inj hf
      exact ww_zret (pc := 17) C kz_1 rfl dX1_hasLike_17
theorem t_l_X1_hasLike_2 {G : oa_G} {O : oa_O} {A : Nat → Prop} {o : Nat → Nat} {res : Int32} (C : oa_C G cX1_hasLike 4 RX1 (some .boolean) rm_X1_hasLike O A) (P : oa_I2) (x1 : Int32) (x2 : Int32)    : ∀ (n : Nat) (x3 : Int32), l_X1_hasLike_2 P x1 x2 n x3 = some res → ww G 4 O A (oa_Q G O A (0, 0) (some (.int res)) (fun W1 => W1 = wd_P O o P)) (0, 0) 2 [(0, .ref (o 0)), (1, .int x1), (2, .int x2), (3, .int x3)] [] (wd_P O o P) := by
  intro n
  induction n with
  | zero => intro x3 hf; exact absurd (show (none : Option (Int32)) = some res from hf) (fun h => nomatch h)
  | succ n ih =>
    intro x3 hf
    exact t_b_X1_hasLike_2 C P x1 x2  (fun x3 => l_X1_hasLike_2 P x1 x2 n x3)  (fun x3 h => ih x3 h) x3 hf
theorem m_X1_hasLike (l : Launch) (O : oa_O) (o : Nat → Nat) (P : oa_I2) (x1 : Int32) (x2 : Int32) (res : Int32) (hf : f_X1_hasLike P x1 x2 = some res) : oa_M l yX1_hasLike cX1_hasLike 4 (some .boolean) rm_X1_hasLike O [.ref (o 0), .int x1, .int x2] (wd_P O o P) (some (.int res)) (fun W1 => W1 = wd_P O o P) := by
  refine oa_Mof (by decide) (Nat.le_of_ble_eq_true rfl) (fun G A hl C => ?_)
  subst hl
  have C : oa_C G cX1_hasLike 4 RX1 (some .boolean) rm_X1_hasLike O A := C
  have hf : f_X1_hasLike P x1 x2 = some res := hf
  delta f_X1_hasLike at hf
  show ww G 4 O A (oa_Q G O A (0, 0) (some (.int res)) (fun W1 => W1 = wd_P O o P)) (0, 0) 0 [(0, .ref (o 0)), (1, .int x1), (2, .int x2)] [] (wd_P O o P)
  refine ww_iconst (pc := 0) C dX1_hasLike_0 kc_0 ?_
  refine ww_istore_n (pc := 1) (L' := [(0, .ref (o 0)), (1, .int x1), (2, .int x2), (3, .int 0)]) C [1, 2, 3, 0] dX1_hasLike_1 rfl (Nat.le_of_ble_eq_true rfl) rfl ?_
  exact t_l_X1_hasLike_2 C P x1 x2    oa_fu 0 hf
theorem dX1_rowOf_0 : decode cX1_rowOf 0 = .ok (.iconst 0, 1) := by decide +kernel
theorem dX1_rowOf_1 : decode cX1_rowOf 1 = .ok (.istore_n 2, 1) := by decide +kernel
theorem dX1_rowOf_2 : decode cX1_rowOf 2 = .ok (.iconst 0, 1) := by decide +kernel
theorem dX1_rowOf_3 : decode cX1_rowOf 3 = .ok (.istore_n 3, 1) := by decide +kernel
theorem dX1_rowOf_4 : decode cX1_rowOf 4 = .ok (.iload_n 3, 1) := by decide +kernel
theorem dX1_rowOf_5 : decode cX1_rowOf 5 = .ok (.bipush 6, 2) := by decide +kernel
theorem dX1_rowOf_7 : decode cX1_rowOf 7 = .ok (.if_icmp .ge 36, 3) := by decide +kernel
theorem dX1_rowOf_10 : decode cX1_rowOf 10 = .ok (.iload_n 2, 1) := by decide +kernel
theorem dX1_rowOf_11 : decode cX1_rowOf 11 = .ok (.bipush 16, 2) := by decide +kernel
theorem dX1_rowOf_13 : decode cX1_rowOf 13 = .ok (.imul, 1) := by decide +kernel
theorem dX1_rowOf_14 : decode cX1_rowOf 14 = .ok (.aload_n 0, 1) := by decide +kernel
theorem dX1_rowOf_15 : decode cX1_rowOf 15 = .ok (.iload_n 1, 1) := by decide +kernel
theorem dX1_rowOf_16 : decode cX1_rowOf 16 = .ok (.iload_n 3, 1) := by decide +kernel
theorem dX1_rowOf_17 : decode cX1_rowOf 17 = .ok (.invokevirtual 19, 3) := by decide +kernel
theorem dX1_rowOf_20 : decode cX1_rowOf 20 = .ok (.ifCond .eq 14, 3) := by decide +kernel
theorem dX1_rowOf_23 : decode cX1_rowOf 23 = .ok (.aload_n 0, 1) := by decide +kernel
theorem dX1_rowOf_24 : decode cX1_rowOf 24 = .ok (.iload_n 1, 1) := by decide +kernel
theorem dX1_rowOf_25 : decode cX1_rowOf 25 = .ok (.iload_n 3, 1) := by decide +kernel
theorem dX1_rowOf_26 : decode cX1_rowOf 26 = .ok (.invokevirtual 25, 3) := by decide +kernel
theorem dX1_rowOf_29 : decode cX1_rowOf 29 = .ok (.iconst 1, 1) := by decide +kernel
theorem dX1_rowOf_30 : decode cX1_rowOf 30 = .ok (.iadd, 1) := by decide +kernel
theorem dX1_rowOf_31 : decode cX1_rowOf 31 = .ok (.goto 4, 3) := by decide +kernel
theorem dX1_rowOf_34 : decode cX1_rowOf 34 = .ok (.iconst 0, 1) := by decide +kernel
theorem dX1_rowOf_35 : decode cX1_rowOf 35 = .ok (.iadd, 1) := by decide +kernel
theorem dX1_rowOf_36 : decode cX1_rowOf 36 = .ok (.istore_n 2, 1) := by decide +kernel
theorem dX1_rowOf_37 : decode cX1_rowOf 37 = .ok (.iinc 3 1, 3) := by decide +kernel
theorem dX1_rowOf_40 : decode cX1_rowOf 40 = .ok (.goto (-36), 3) := by decide +kernel
theorem dX1_rowOf_43 : decode cX1_rowOf 43 = .ok (.iload_n 2, 1) := by decide +kernel
theorem dX1_rowOf_44 : decode cX1_rowOf 44 = .ok (.ireturn, 1) := by decide +kernel
abbrev rm_X1_rowOf : Room := { frames := 1, cells := 0, slots := 0, locals := 22 }
theorem t_b_X1_rowOf_4 {G : oa_G} {O : oa_O} {A : Nat → Prop} {h : Nat → Nat} {res : Int32} (C : oa_C G cX1_rowOf 4 RX1 (some .int) rm_X1_rowOf O A) (V : oa_I2) (x1 : Int32)    (k4 : Int32 → Int32 → Option (Int32))  (hk4 : ∀ (b_x2 : Int32) (b_x3 : Int32), k4 b_x2 b_x3 = some res → ww G 4 O A (oa_Q G O A (0, 0) (some (.int res)) (fun W1 => W1 = wd_V O h V)) (0, 0) 4 [(0, .ref (h 0)), (1, .int x1), (2, .int b_x2), (3, .int b_x3)] [] (wd_V O h V)) (x2 : Int32) (x3 : Int32) (hf : b_X1_rowOf_4 V x1 k4 x2 x3 = some res) : ww G 4 O A (oa_Q G O A (0, 0) (some (.int res)) (fun W1 => W1 = wd_V O h V)) (0, 0) 4 [(0, .ref (h 0)), (1, .int x1), (2, .int x2), (3, .int x3)] [] (wd_V O h V) := by
  delta b_X1_rowOf_4 at hf
  refine ww_iload_n (pc := 4) (i := 3) C 3 dX1_rowOf_4 rfl rfl ?_
  refine ww_bipush (pc := 5) C dX1_rowOf_5 kb_6 ?_
  refine ww_icmp_ge (pc := 7) (tgt := 43) C dX1_rowOf_7 (by decide) (fun c1 => ?_) (fun c1 => ?_)
  · have hf := oa_ifp c1 hf
    refine ww_iload_n (pc := 43) (i := 2) C 2 dX1_rowOf_43 rfl rfl ?_
    obtain rfl := Option.some.inj hf
    exact ww_iret (pc := 44) C rfl dX1_rowOf_44
  · have hf := oa_ifn c1 hf
    refine ww_iload_n (pc := 10) (i := 2) C 2 dX1_rowOf_10 rfl rfl ?_
    refine ww_bipush (pc := 11) C dX1_rowOf_11 kb_16 ?_
    refine ww_imul (pc := 13) C dX1_rowOf_13 ?_
    refine ww_aload_n (pc := 14) (i := 0) C 0 dX1_rowOf_14 rfl rfl ?_
    refine ww_iload_n (pc := 15) (i := 1) C 1 dX1_rowOf_15 rfl rfl ?_
    refine ww_iload_n (pc := 16) (i := 3) C 3 dX1_rowOf_16 rfl rfl ?_
    obtain ⟨y2, e3, hf⟩ := oa_bind hf
    refine ww_callV (pc := 17) (As := [.int x1, .int x3]) (rest := [.int (x2 * 16)]) (wd := wd_V O h V) (ws' := wd_V O h V) (rv := (some (.int y2))) C hY_X5_isAngry hV_X5_isAngry lk_X1_19 (m_X5_isAngry _ O h V x1 x3 _ e3) [0, 1, 2, 3, 4, 5] 0 rfl rfl rfl rfl rfl (oa_putS _ _ _ rfl) (fun _ h => h) ⟨rfl, rfl⟩ ⟨Nat.zero_le _, Nat.zero_le _⟩ ⟨Nat.le_of_ble_eq_true rfl, Nat.le_of_ble_eq_true rfl⟩ rfl (Nat.le_of_ble_eq_true rfl) rfl rfl dX1_rowOf_17 ?_
    refine ww_if_eq (pc := 20) (tgt := 34) C dX1_rowOf_20 (by decide) (fun c5 => ?_) (fun c5 => ?_)
    · have hf := oa_ifp c5 hf
      refine ww_iconst (pc := 34) C dX1_rowOf_34 kc_0 ?_
      refine ww_iadd (pc := 35) C dX1_rowOf_35 ?_
      obtain ⟨y6, e7, hf⟩ := oa_letE hf
      refine ww_topi C e7 ?_
      refine ww_istore_n (pc := 36) (L' := [(0, .ref (h 0)), (1, .int x1), (2, .int y6), (3, .int x3)]) C [1, 2, 0, 3] dX1_rowOf_36 rfl (Nat.le_of_ble_eq_true rfl) rfl ?_
      refine ww_iinc (pc := 37) (v := (x3 + 1)) (L' := [(0, .ref (h 0)), (1, .int x1), (2, .int y6), (3, .int (x3 + 1))]) C 3 [1, 2, 3, 0] dX1_rowOf_37 rfl (ki_1 _) (Nat.le_of_ble_eq_true rfl) rfl ?_
      refine ww_goto (pc := 40) (tgt := 4) C dX1_rowOf_40 (by decide) ?_
      exact hk4 y6 (x3 + 1) hf
    · have hf := oa_ifn c5 hf
      refine ww_aload_n (pc := 23) (i := 0) C 0 dX1_rowOf_23 rfl rfl ?_
      refine ww_iload_n (pc := 24) (i := 1) C 1 dX1_rowOf_24 rfl rfl ?_
      refine ww_iload_n (pc := 25) (i := 3) C 3 dX1_rowOf_25 rfl rfl ?_
      obtain ⟨y8, e9, hf⟩ := oa_bind hf
      refine ww_callV (pc := 26) (As := [.int x1, .int x3]) (rest := [.int (x2 * 16)]) (wd := wd_V O h V) (ws' := wd_V O h V) (rv := (some (.int y8))) C hY_X5_ageOf hV_X5_ageOf lk_X1_25 (m_X5_ageOf _ O h V x1 x3 _ e9) [0, 1, 2, 3, 4, 5] 0 rfl rfl rfl rfl rfl (oa_putS _ _ _ rfl) (fun _ h => h) ⟨rfl, rfl⟩ ⟨Nat.zero_le _, Nat.zero_le _⟩ ⟨Nat.le_of_ble_eq_true rfl, Nat.le_of_ble_eq_true rfl⟩ rfl (Nat.le_of_ble_eq_true rfl) rfl rfl dX1_rowOf_26 ?_
      refine ww_iconst (pc := 29) C dX1_rowOf_29 kc_1 ?_
      refine ww_iadd (pc := 30) C dX1_rowOf_30 ?_
      refine ww_goto (pc := 31) (tgt := 35) C dX1_rowOf_31 (by decide) ?_
      refine ww_iadd (pc := 35) C dX1_rowOf_35 ?_
      obtain ⟨y11, e12, hf⟩ := oa_letE hf
      refine ww_topi C e12 ?_
      refine ww_istore_n (pc := 36) (L' := [(0, .ref (h 0)), (1, .int x1), (2, .int y11), (3, .int x3)]) C [1, 2, 0, 3] dX1_rowOf_36 rfl (Nat.le_of_ble_eq_true rfl) rfl ?_
      refine ww_iinc (pc := 37) (v := (x3 + 1)) (L' := [(0, .ref (h 0)), (1, .int x1), (2, .int y11), (3, .int (x3 + 1))]) C 3 [1, 2, 3, 0] dX1_rowOf_37 rfl (ki_1 _) (Nat.le_of_ble_eq_true rfl) rfl ?_
      refine ww_goto (pc := 40) (tgt := 4) C dX1_rowOf_40 (by decide) ?_
      exact hk4 y11 (x3 + 1) hf
theorem t_l_X1_rowOf_4 {G : oa_G} {O : oa_O} {A : Nat → Prop} {h : Nat → Nat} {res : Int32} (C : oa_C G cX1_rowOf 4 RX1 (some .int) rm_X1_rowOf O A) (V : oa_I2) (x1 : Int32)    : ∀ (n : Nat) (x2 : Int32) (x3 : Int32), l_X1_rowOf_4 V x1 n x2 x3 = some res → ww G 4 O A (oa_Q G O A (0, 0) (some (.int res)) (fun W1 => W1 = wd_V O h V)) (0, 0) 4 [(0, .ref (h 0)), (1, .int x1), (2, .int x2), (3, .int x3)] [] (wd_V O h V) := by
  intro n
  induction n with
  | zero => intro x2 x3 hf; exact absurd (show (none : Option (Int32)) = some res from hf) (fun h => nomatch h)
  | succ n ih =>
    intro x2 x3 hf
    exact t_b_X1_rowOf_4 C V x1  (fun x2 x3 => l_X1_rowOf_4 V x1 n x2 x3)  (fun x2 x3 h => ih x2 x3 h) x2 x3 hf
theorem m_X1_rowOf (l : Launch) (O : oa_O) (h : Nat → Nat) (V : oa_I2) (x1 : Int32) (res : Int32) (hf : f_X1_rowOf V x1 = some res) : oa_M l yX1_rowOf cX1_rowOf 4 (some .int) rm_X1_rowOf O [.ref (h 0), .int x1] (wd_V O h V) (some (.int res)) (fun W1 => W1 = wd_V O h V) := by
  refine oa_Mof (by decide) (Nat.le_of_ble_eq_true rfl) (fun G A hl C => ?_)
  subst hl
  have C : oa_C G cX1_rowOf 4 RX1 (some .int) rm_X1_rowOf O A := C
  have hf : f_X1_rowOf V x1 = some res := hf
  delta f_X1_rowOf at hf
  show ww G 4 O A (oa_Q G O A (0, 0) (some (.int res)) (fun W1 => W1 = wd_V O h V)) (0, 0) 0 [(0, .ref (h 0)), (1, .int x1)] [] (wd_V O h V)
  refine ww_iconst (pc := 0) C dX1_rowOf_0 kc_0 ?_
  refine ww_istore_n (pc := 1) (L' := [(0, .ref (h 0)), (1, .int x1), (2, .int 0)]) C [1, 2, 0] dX1_rowOf_1 rfl (Nat.le_of_ble_eq_true rfl) rfl ?_
  refine ww_iconst (pc := 2) C dX1_rowOf_2 kc_0 ?_
  refine ww_istore_n (pc := 3) (L' := [(0, .ref (h 0)), (1, .int x1), (2, .int 0), (3, .int 0)]) C [1, 2, 3, 0] dX1_rowOf_3 rfl (Nat.le_of_ble_eq_true rfl) rfl ?_
  exact t_l_X1_rowOf_4 C V x1    oa_fu 0 0 hf
theorem dX1_note_0 : decode cX1_note 0 = .ok (.iconst 0, 1) := by decide +kernel
theorem dX1_note_1 : decode cX1_note 1 = .ok (.istore_n 3, 1) := by decide +kernel
theorem dX1_note_2 : decode cX1_note 2 = .ok (.iload_n 3, 1) := by decide +kernel
theorem dX1_note_3 : decode cX1_note 3 = .ok (.bipush 6, 2) := by decide +kernel
theorem dX1_note_5 : decode cX1_note 5 = .ok (.if_icmp .ge 25, 3) := by decide +kernel
theorem dX1_note_8 : decode cX1_note 8 = .ok (.aload_n 0, 1) := by decide +kernel
theorem dX1_note_9 : decode cX1_note 9 = .ok (.getfield 9, 3) := by decide +kernel
theorem dX1_note_12 : decode cX1_note 12 = .ok (.iload_n 1, 1) := by decide +kernel
theorem dX1_note_13 : decode cX1_note 13 = .ok (.bipush 6, 2) := by decide +kernel
theorem dX1_note_15 : decode cX1_note 15 = .ok (.imul, 1) := by decide +kernel
theorem dX1_note_16 : decode cX1_note 16 = .ok (.iload_n 3, 1) := by decide +kernel
theorem dX1_note_17 : decode cX1_note 17 = .ok (.iadd, 1) := by decide +kernel
theorem dX1_note_18 : decode cX1_note 18 = .ok (.aload_n 2, 1) := by decide +kernel
theorem dX1_note_19 : decode cX1_note 19 = .ok (.iload_n 3, 1) := by decide +kernel
theorem dX1_note_20 : decode cX1_note 20 = .ok (.invokestatic 15, 3) := by decide +kernel
theorem dX1_note_23 : decode cX1_note 23 = .ok (.iastore, 1) := by decide +kernel
theorem dX1_note_24 : decode cX1_note 24 = .ok (.iinc 3 1, 3) := by decide +kernel
theorem dX1_note_27 : decode cX1_note 27 = .ok (.goto (-25), 3) := by decide +kernel
theorem dX1_note_30 : decode cX1_note 30 = .ok (.return_, 1) := by decide +kernel
abbrev rm_X1_note : Room := { frames := 2, cells := 0, slots := 0, locals := 45 }
theorem t_b_X1_note_2 {G : oa_G} {O : oa_O} {A : Nat → Prop} {o : Nat → Nat} {h : Nat → Nat} {res : oa_I2} (C : oa_C G cX1_note 4 RX1 none rm_X1_note O A) (V : oa_I2) (x1 : Int32)    (k2 : oa_I2 → Int32 → Option (oa_I2))  (hk2 : ∀ (b_P : oa_I2) (b_x3 : Int32), k2 b_P b_x3 = some res → ww G 4 O A (oa_Q G O A (0, 0) none (fun W1 => W1 = wd_PV O o h res V)) (0, 0) 2 [(0, .ref (o 0)), (1, .int x1), (2, .ref (h 0)), (3, .int b_x3)] [] (wd_PV O o h b_P V)) (P : oa_I2) (x3 : Int32) (hf : b_X1_note_2 V x1 k2 P x3 = some res) : ww G 4 O A (oa_Q G O A (0, 0) none (fun W1 => W1 = wd_PV O o h res V)) (0, 0) 2 [(0, .ref (o 0)), (1, .int x1), (2, .ref (h 0)), (3, .int x3)] [] (wd_PV O o h P V) := by
  delta b_X1_note_2 at hf
  refine ww_iload_n (pc := 2) (i := 3) C 3 dX1_note_2 rfl rfl ?_
  refine ww_bipush (pc := 3) C dX1_note_3 kb_6 ?_
  refine ww_icmp_ge (pc := 5) (tgt := 30) C dX1_note_5 (by decide) (fun c1 => ?_) (fun c1 => ?_)
  · have hf := oa_ifp c1 hf
    obtain rfl := Option.some.inj hf
    exact ww_vret (pc := 30) C rfl dX1_note_30
  · have hf := oa_ifn c1 hf
    refine ww_aload_n (pc := 8) (i := 0) C 0 dX1_note_8 rfl rfl ?_
    refine ww_get (pc := 9) C fl_X1_9 0 rfl rfl dX1_note_9 ?_
    refine ww_iload_n (pc := 12) (i := 1) C 1 dX1_note_12 rfl rfl ?_
    refine ww_bipush (pc := 13) C dX1_note_13 kb_6 ?_
    refine ww_imul (pc := 15) C dX1_note_15 ?_
    refine ww_iload_n (pc := 16) (i := 3) C 3 dX1_note_16 rfl rfl ?_
    refine ww_iadd (pc := 17) C dX1_note_17 ?_
    refine ww_aload_n (pc := 18) (i := 2) C 2 dX1_note_18 rfl rfl ?_
    refine ww_iload_n (pc := 19) (i := 3) C 3 dX1_note_19 rfl rfl ?_
    obtain ⟨y2, e3, hf⟩ := oa_bind hf
    refine ww_callS (pc := 20) (As := [.ref (h 0), .int x3]) (rest := [.int ((x1 * 6) + x3), .ref (o 1)]) (wd := wd_V O h V) (ws' := wd_PV O o h P V) (rv := (some (.int y2))) C hY_X1_rowOf hS_X1_rowOf lk_X1_15 (m_X1_rowOf _ O h V x3 _ e3) [2, 3, 4, 5, 6, 7] rfl rfl rfl (oa_putS _ _ _ rfl) (fun _ h => h) ⟨rfl, rfl⟩ ⟨Nat.zero_le _, Nat.zero_le _⟩ ⟨Nat.le_of_ble_eq_true rfl, Nat.le_of_ble_eq_true rfl⟩ rfl (Nat.le_of_ble_eq_true rfl) rfl rfl dX1_note_20 ?_
    obtain ⟨g5, e6, hf⟩ := oa_bind hf
    obtain ⟨P7, e8, hf⟩ := oa_letE hf
    refine ww_iast (pc := 23) C (fun Z => wd_PV O o h Z V) 1 rfl e6 e8 rfl dX1_note_23 ?_
    refine ww_iinc (pc := 24) (v := (x3 + 1)) (L' := [(0, .ref (o 0)), (1, .int x1), (2, .ref (h 0)), (3, .int (x3 + 1))]) C 3 [1, 2, 3, 0] dX1_note_24 rfl (ki_1 _) (Nat.le_of_ble_eq_true rfl) rfl ?_
    refine ww_goto (pc := 27) (tgt := 2) C dX1_note_27 (by decide) ?_
    exact hk2 P7 (x3 + 1) hf
theorem t_l_X1_note_2 {G : oa_G} {O : oa_O} {A : Nat → Prop} {o : Nat → Nat} {h : Nat → Nat} {res : oa_I2} (C : oa_C G cX1_note 4 RX1 none rm_X1_note O A) (V : oa_I2) (x1 : Int32)    : ∀ (n : Nat) (P : oa_I2) (x3 : Int32), l_X1_note_2 V x1 n P x3 = some res → ww G 4 O A (oa_Q G O A (0, 0) none (fun W1 => W1 = wd_PV O o h res V)) (0, 0) 2 [(0, .ref (o 0)), (1, .int x1), (2, .ref (h 0)), (3, .int x3)] [] (wd_PV O o h P V) := by
  intro n
  induction n with
  | zero => intro P x3 hf; exact absurd (show (none : Option (oa_I2)) = some res from hf) (fun h => nomatch h)
  | succ n ih =>
    intro P x3 hf
    exact t_b_X1_note_2 C V x1  (fun P x3 => l_X1_note_2 V x1 n P x3)  (fun P x3 h => ih P x3 h) P x3 hf
theorem m_X1_note (l : Launch) (O : oa_O) (o : Nat → Nat) (h : Nat → Nat) (P : oa_I2) (V : oa_I2) (x1 : Int32) (res : oa_I2) (hf : f_X1_note P V x1 = some res) : oa_M l yX1_note cX1_note 4 none rm_X1_note O [.ref (o 0), .int x1, .ref (h 0)] (wd_PV O o h P V) none (fun W1 => W1 = wd_PV O o h res V) := by
  refine oa_Mof (by decide) (Nat.le_of_ble_eq_true rfl) (fun G A hl C => ?_)
  subst hl
  have C : oa_C G cX1_note 4 RX1 none rm_X1_note O A := C
  have hf : f_X1_note P V x1 = some res := hf
  delta f_X1_note at hf
  show ww G 4 O A (oa_Q G O A (0, 0) none (fun W1 => W1 = wd_PV O o h res V)) (0, 0) 0 [(0, .ref (o 0)), (1, .int x1), (2, .ref (h 0))] [] (wd_PV O o h P V)
  refine ww_iconst (pc := 0) C dX1_note_0 kc_0 ?_
  refine ww_istore_n (pc := 1) (L' := [(0, .ref (o 0)), (1, .int x1), (2, .ref (h 0)), (3, .int 0)]) C [1, 2, 3, 0] dX1_note_1 rfl (Nat.le_of_ble_eq_true rfl) rfl ?_
  exact t_l_X1_note_2 C V x1    oa_fu P 0 hf
theorem dX2_endsOf_0 : decode cX2_endsOf 0 = .ok (.iconst 0, 1) := by decide +kernel
theorem dX2_endsOf_1 : decode cX2_endsOf 1 = .ok (.istore 4, 2) := by decide +kernel
theorem dX2_endsOf_3 : decode cX2_endsOf 3 = .ok (.iload_n 3, 1) := by decide +kernel
theorem dX2_endsOf_4 : decode cX2_endsOf 4 = .ok (.iconst 1, 1) := by decide +kernel
theorem dX2_endsOf_5 : decode cX2_endsOf 5 = .ok (.iadd, 1) := by decide +kernel
theorem dX2_endsOf_6 : decode cX2_endsOf 6 = .ok (.istore 5, 2) := by decide +kernel
theorem dX2_endsOf_8 : decode cX2_endsOf 8 = .ok (.iload 5, 2) := by decide +kernel
theorem dX2_endsOf_10 : decode cX2_endsOf 10 = .ok (.aload_n 1, 1) := by decide +kernel
theorem dX2_endsOf_11 : decode cX2_endsOf 11 = .ok (.getfield 25, 3) := by decide +kernel
theorem dX2_endsOf_14 : decode cX2_endsOf 14 = .ok (.if_icmp .ge 50, 3) := by decide +kernel
theorem dX2_endsOf_17 : decode cX2_endsOf 17 = .ok (.iload_n 2, 1) := by decide +kernel
theorem dX2_endsOf_18 : decode cX2_endsOf 18 = .ok (.iload 5, 2) := by decide +kernel
theorem dX2_endsOf_20 : decode cX2_endsOf 20 = .ok (.ishr, 1) := by decide +kernel
theorem dX2_endsOf_21 : decode cX2_endsOf 21 = .ok (.iconst 1, 1) := by decide +kernel
theorem dX2_endsOf_22 : decode cX2_endsOf 22 = .ok (.iand, 1) := by decide +kernel
theorem dX2_endsOf_23 : decode cX2_endsOf 23 = .ok (.ifCond .eq 35, 3) := by decide +kernel
theorem dX2_endsOf_26 : decode cX2_endsOf 26 = .ok (.aload_n 0, 1) := by decide +kernel
theorem dX2_endsOf_27 : decode cX2_endsOf 27 = .ok (.getfield 9, 3) := by decide +kernel
theorem dX2_endsOf_30 : decode cX2_endsOf 30 = .ok (.iload_n 2, 1) := by decide +kernel
theorem dX2_endsOf_31 : decode cX2_endsOf 31 = .ok (.iconst 1, 1) := by decide +kernel
theorem dX2_endsOf_32 : decode cX2_endsOf 32 = .ok (.iload 5, 2) := by decide +kernel
theorem dX2_endsOf_34 : decode cX2_endsOf 34 = .ok (.ishl, 1) := by decide +kernel
theorem dX2_endsOf_35 : decode cX2_endsOf 35 = .ok (.iconst (-1), 1) := by decide +kernel
theorem dX2_endsOf_36 : decode cX2_endsOf 36 = .ok (.ixor, 1) := by decide +kernel
theorem dX2_endsOf_37 : decode cX2_endsOf 37 = .ok (.iand, 1) := by decide +kernel
theorem dX2_endsOf_38 : decode cX2_endsOf 38 = .ok (.iaload, 1) := by decide +kernel
theorem dX2_endsOf_39 : decode cX2_endsOf 39 = .ok (.aload_n 1, 1) := by decide +kernel
theorem dX2_endsOf_40 : decode cX2_endsOf 40 = .ok (.iload 5, 2) := by decide +kernel
theorem dX2_endsOf_42 : decode cX2_endsOf 42 = .ok (.invokevirtual 43, 3) := by decide +kernel
theorem dX2_endsOf_45 : decode cX2_endsOf 45 = .ok (.iand, 1) := by decide +kernel
theorem dX2_endsOf_46 : decode cX2_endsOf 46 = .ok (.ifCond .eq 12, 3) := by decide +kernel
theorem dX2_endsOf_49 : decode cX2_endsOf 49 = .ok (.iload 4, 2) := by decide +kernel
theorem dX2_endsOf_51 : decode cX2_endsOf 51 = .ok (.iconst 1, 1) := by decide +kernel
theorem dX2_endsOf_52 : decode cX2_endsOf 52 = .ok (.iload 5, 2) := by decide +kernel
theorem dX2_endsOf_54 : decode cX2_endsOf 54 = .ok (.ishl, 1) := by decide +kernel
theorem dX2_endsOf_55 : decode cX2_endsOf 55 = .ok (.ior, 1) := by decide +kernel
theorem dX2_endsOf_56 : decode cX2_endsOf 56 = .ok (.istore 4, 2) := by decide +kernel
theorem dX2_endsOf_58 : decode cX2_endsOf 58 = .ok (.iinc 5 1, 3) := by decide +kernel
theorem dX2_endsOf_61 : decode cX2_endsOf 61 = .ok (.goto (-53), 3) := by decide +kernel
theorem dX2_endsOf_64 : decode cX2_endsOf 64 = .ok (.iload 4, 2) := by decide +kernel
theorem dX2_endsOf_66 : decode cX2_endsOf 66 = .ok (.ireturn, 1) := by decide +kernel
abbrev rm_X2_endsOf : Room := { frames := 2, cells := 0, slots := 0, locals := 45 }
theorem t_b_X2_endsOf_8 {G : oa_G} {O : oa_O} {A : Nat → Prop} {o : Nat → Nat} {h : Nat → Nat} {res : Int32} (C : oa_C G cX2_endsOf 6 RX2 (some .int) rm_X2_endsOf O A) (R : oa_I2) (V : oa_I2) (x2 : Int32) (x3 : Int32)    (k8 : Int32 → Int32 → Option (Int32))  (hk8 : ∀ (b_x4 : Int32) (b_x5 : Int32), k8 b_x4 b_x5 = some res → ww G 6 O A (oa_Q G O A (0, 0) (some (.int res)) (fun W1 => W1 = wd_RV O o h R V)) (0, 0) 8 [(0, .ref (o 0)), (1, .ref (h 0)), (2, .int x2), (4, .int b_x4), (5, .int b_x5)] [] (wd_RV O o h R V)) (x4 : Int32) (x5 : Int32) (hf : b_X2_endsOf_8 R V x2 x3 k8 x4 x5 = some res) : ww G 6 O A (oa_Q G O A (0, 0) (some (.int res)) (fun W1 => W1 = wd_RV O o h R V)) (0, 0) 8 [(0, .ref (o 0)), (1, .ref (h 0)), (2, .int x2), (4, .int x4), (5, .int x5)] [] (wd_RV O o h R V) := by
  delta b_X2_endsOf_8 at hf
  refine ww_iload (pc := 8) (i := 5) C 4 dX2_endsOf_8 rfl ?_
  refine ww_aload_n (pc := 10) (i := 1) C 1 dX2_endsOf_10 rfl rfl ?_
  refine ww_get (pc := 11) C fl_X2_25 2 rfl rfl dX2_endsOf_11 ?_
  refine ww_icmp_ge (pc := 14) (tgt := 64) C dX2_endsOf_14 (by decide) (fun c3 => ?_) (fun c3 => ?_)
  · have hf := oa_ifp c3 hf
    refine ww_iload (pc := 64) (i := 4) C 3 dX2_endsOf_64 rfl ?_
    obtain rfl := Option.some.inj hf
    exact ww_iret (pc := 66) C rfl dX2_endsOf_66
  · have hf := oa_ifn c3 hf
    refine ww_iload_n (pc := 17) (i := 2) C 2 dX2_endsOf_17 rfl rfl ?_
    refine ww_iload (pc := 18) (i := 5) C 4 dX2_endsOf_18 rfl ?_
    refine ww_ishr (pc := 20) C dX2_endsOf_20 ?_
    refine ww_iconst (pc := 21) C dX2_endsOf_21 kc_1 ?_
    refine ww_iand (pc := 22) C dX2_endsOf_22 ?_
    refine ww_if_eq (pc := 23) (tgt := 58) C dX2_endsOf_23 (by decide) (fun c4 => ?_) (fun c4 => ?_)
    · have hf := oa_ifp c4 hf
      refine ww_iinc (pc := 58) (v := (x5 + 1)) (L' := [(0, .ref (o 0)), (1, .ref (h 0)), (2, .int x2), (4, .int x4), (5, .int (x5 + 1))]) C 4 [1, 2, 3, 4, 0] dX2_endsOf_58 rfl (ki_1 _) (Nat.le_of_ble_eq_true rfl) rfl ?_
      refine ww_goto (pc := 61) (tgt := 8) C dX2_endsOf_61 (by decide) ?_
      exact hk8 x4 (x5 + 1) hf
    · have hf := oa_ifn c4 hf
      refine ww_aload_n (pc := 26) (i := 0) C 0 dX2_endsOf_26 rfl rfl ?_
      refine ww_get (pc := 27) C fl_X2_9 0 rfl rfl dX2_endsOf_27 ?_
      refine ww_iload_n (pc := 30) (i := 2) C 2 dX2_endsOf_30 rfl rfl ?_
      refine ww_iconst (pc := 31) C dX2_endsOf_31 kc_1 ?_
      refine ww_iload (pc := 32) (i := 5) C 4 dX2_endsOf_32 rfl ?_
      refine ww_ishl (pc := 34) C dX2_endsOf_34 ?_
      refine ww_iconst (pc := 35) C dX2_endsOf_35 kc_m1 ?_
      refine ww_ixor (pc := 36) C dX2_endsOf_36 ?_
      refine ww_iand (pc := 37) C dX2_endsOf_37 ?_
      obtain ⟨y5, e6, hf⟩ := oa_bind hf
      refine ww_iald (pc := 38) C 1 rfl e6 dX2_endsOf_38 ?_
      refine ww_aload_n (pc := 39) (i := 1) C 1 dX2_endsOf_39 rfl rfl ?_
      refine ww_iload (pc := 40) (i := 5) C 4 dX2_endsOf_40 rfl ?_
      obtain ⟨y7, e8, hf⟩ := oa_bind hf
      refine ww_callV (pc := 42) (As := [.int x5]) (rest := [.int y5]) (wd := wd_V O h V) (ws' := wd_RV O o h R V) (rv := (some (.int y7))) C hY_X5_angryWith hV_X5_angryWith lk_X2_43 (m_X5_angryWith _ O h V x5 _ e8) [2, 3, 4, 5, 6, 7] 2 rfl rfl rfl rfl rfl (oa_putS _ _ _ rfl) (fun _ h => h) ⟨rfl, rfl⟩ ⟨Nat.zero_le _, Nat.zero_le _⟩ ⟨Nat.le_of_ble_eq_true rfl, Nat.le_of_ble_eq_true rfl⟩ rfl (Nat.le_of_ble_eq_true rfl) rfl rfl dX2_endsOf_42 ?_
      refine ww_iand (pc := 45) C dX2_endsOf_45 ?_
      refine ww_if_eq (pc := 46) (tgt := 58) C dX2_endsOf_46 (by decide) (fun c10 => ?_) (fun c10 => ?_)
      · have hf := oa_ifp c10 hf
        refine ww_iinc (pc := 58) (v := (x5 + 1)) (L' := [(0, .ref (o 0)), (1, .ref (h 0)), (2, .int x2), (4, .int x4), (5, .int (x5 + 1))]) C 4 [1, 2, 3, 4, 0] dX2_endsOf_58 rfl (ki_1 _) (Nat.le_of_ble_eq_true rfl) rfl ?_
        refine ww_goto (pc := 61) (tgt := 8) C dX2_endsOf_61 (by decide) ?_
        exact hk8 x4 (x5 + 1) hf
      · have hf := oa_ifn c10 hf
        refine ww_iload (pc := 49) (i := 4) C 3 dX2_endsOf_49 rfl ?_
        refine ww_iconst (pc := 51) C dX2_endsOf_51 kc_1 ?_
        refine ww_iload (pc := 52) (i := 5) C 4 dX2_endsOf_52 rfl ?_
        refine ww_ishl (pc := 54) C dX2_endsOf_54 ?_
        refine ww_ior (pc := 55) C dX2_endsOf_55 ?_
        obtain ⟨y11, e12, hf⟩ := oa_letE hf
        refine ww_topi C e12 ?_
        refine ww_istore (pc := 56) (L' := [(0, .ref (o 0)), (1, .ref (h 0)), (2, .int x2), (4, .int y11), (5, .int x5)]) C [1, 2, 3, 0, 4] dX2_endsOf_56 (Nat.le_of_ble_eq_true rfl) rfl ?_
        refine ww_iinc (pc := 58) (v := (x5 + 1)) (L' := [(0, .ref (o 0)), (1, .ref (h 0)), (2, .int x2), (4, .int y11), (5, .int (x5 + 1))]) C 4 [1, 2, 3, 4, 0] dX2_endsOf_58 rfl (ki_1 _) (Nat.le_of_ble_eq_true rfl) rfl ?_
        refine ww_goto (pc := 61) (tgt := 8) C dX2_endsOf_61 (by decide) ?_
        exact hk8 y11 (x5 + 1) hf
theorem t_l_X2_endsOf_8 {G : oa_G} {O : oa_O} {A : Nat → Prop} {o : Nat → Nat} {h : Nat → Nat} {res : Int32} (C : oa_C G cX2_endsOf 6 RX2 (some .int) rm_X2_endsOf O A) (R : oa_I2) (V : oa_I2) (x2 : Int32) (x3 : Int32)    : ∀ (n : Nat) (x4 : Int32) (x5 : Int32), l_X2_endsOf_8 R V x2 x3 n x4 x5 = some res → ww G 6 O A (oa_Q G O A (0, 0) (some (.int res)) (fun W1 => W1 = wd_RV O o h R V)) (0, 0) 8 [(0, .ref (o 0)), (1, .ref (h 0)), (2, .int x2), (4, .int x4), (5, .int x5)] [] (wd_RV O o h R V) := by
  intro n
  induction n with
  | zero => intro x4 x5 hf; exact absurd (show (none : Option (Int32)) = some res from hf) (fun h => nomatch h)
  | succ n ih =>
    intro x4 x5 hf
    exact t_b_X2_endsOf_8 C R V x2 x3  (fun x4 x5 => l_X2_endsOf_8 R V x2 x3 n x4 x5)  (fun x4 x5 h => ih x4 x5 h) x4 x5 hf
theorem m_X2_endsOf (l : Launch) (O : oa_O) (o : Nat → Nat) (h : Nat → Nat) (R : oa_I2) (V : oa_I2) (x2 : Int32) (x3 : Int32) (res : Int32) (hf : f_X2_endsOf R V x2 x3 = some res) : oa_M l yX2_endsOf cX2_endsOf 6 (some .int) rm_X2_endsOf O [.ref (o 0), .ref (h 0), .int x2, .int x3] (wd_RV O o h R V) (some (.int res)) (fun W1 => W1 = wd_RV O o h R V) := by
  refine oa_Mof (by decide) (Nat.le_of_ble_eq_true rfl) (fun G A hl C => ?_)
  subst hl
  have C : oa_C G cX2_endsOf 6 RX2 (some .int) rm_X2_endsOf O A := C
  have hf : f_X2_endsOf R V x2 x3 = some res := hf
  delta f_X2_endsOf at hf
  show ww G 6 O A (oa_Q G O A (0, 0) (some (.int res)) (fun W1 => W1 = wd_RV O o h R V)) (0, 0) 0 [(0, .ref (o 0)), (1, .ref (h 0)), (2, .int x2), (3, .int x3)] [] (wd_RV O o h R V)
  refine ww_iconst (pc := 0) C dX2_endsOf_0 kc_0 ?_
  refine ww_istore (pc := 1) (L' := [(0, .ref (o 0)), (1, .ref (h 0)), (2, .int x2), (3, .int x3), (4, .int 0)]) C [1, 2, 3, 4, 0] dX2_endsOf_1 (Nat.le_of_ble_eq_true rfl) rfl ?_
  refine ww_iload_n (pc := 3) (i := 3) C 3 dX2_endsOf_3 rfl rfl ?_
  refine ww_iconst (pc := 4) C dX2_endsOf_4 kc_1 ?_
  refine ww_iadd (pc := 5) C dX2_endsOf_5 ?_
  obtain ⟨y1, e2, hf⟩ := oa_letE hf
  refine ww_topi C e2 ?_
  refine ww_istore (pc := 6) (L' := [(0, .ref (o 0)), (1, .ref (h 0)), (2, .int x2), (3, .int x3), (4, .int 0), (5, .int y1)]) C [1, 2, 3, 4, 5, 0] dX2_endsOf_6 (Nat.le_of_ble_eq_true rfl) rfl ?_
  refine ww_sub C [0, 1, 2, 4, 5] rfl ?_
  exact t_l_X2_endsOf_8 C R V x2 x3    oa_fu 0 y1 hf
theorem dX2_noteRing_0 : decode cX2_noteRing 0 = .ok (.aload_n 0, 1) := by decide +kernel
theorem dX2_noteRing_1 : decode cX2_noteRing 1 = .ok (.getfield 15, 3) := by decide +kernel
theorem dX2_noteRing_4 : decode cX2_noteRing 4 = .ok (.bipush (-4), 2) := by decide +kernel
theorem dX2_noteRing_6 : decode cX2_noteRing 6 = .ok (.if_icmp .eq 11, 3) := by decide +kernel
theorem dX2_noteRing_9 : decode cX2_noteRing 9 = .ok (.iload_n 2, 1) := by decide +kernel
theorem dX2_noteRing_10 : decode cX2_noteRing 10 = .ok (.aload_n 0, 1) := by decide +kernel
theorem dX2_noteRing_11 : decode cX2_noteRing 11 = .ok (.getfield 15, 3) := by decide +kernel
theorem dX2_noteRing_14 : decode cX2_noteRing 14 = .ok (.if_icmp .ge 13, 3) := by decide +kernel
theorem dX2_noteRing_17 : decode cX2_noteRing 17 = .ok (.aload_n 0, 1) := by decide +kernel
theorem dX2_noteRing_18 : decode cX2_noteRing 18 = .ok (.iload_n 2, 1) := by decide +kernel
theorem dX2_noteRing_19 : decode cX2_noteRing 19 = .ok (.putfield 15, 3) := by decide +kernel
theorem dX2_noteRing_22 : decode cX2_noteRing 22 = .ok (.aload_n 0, 1) := by decide +kernel
theorem dX2_noteRing_23 : decode cX2_noteRing 23 = .ok (.iload_n 1, 1) := by decide +kernel
theorem dX2_noteRing_24 : decode cX2_noteRing 24 = .ok (.putfield 22, 3) := by decide +kernel
theorem dX2_noteRing_27 : decode cX2_noteRing 27 = .ok (.aload_n 0, 1) := by decide +kernel
theorem dX2_noteRing_28 : decode cX2_noteRing 28 = .ok (.aload_n 0, 1) := by decide +kernel
theorem dX2_noteRing_29 : decode cX2_noteRing 29 = .ok (.getfield 19, 3) := by decide +kernel
theorem dX2_noteRing_32 : decode cX2_noteRing 32 = .ok (.iload_n 2, 1) := by decide +kernel
theorem dX2_noteRing_33 : decode cX2_noteRing 33 = .ok (.invokestatic 50, 3) := by decide +kernel
theorem dX2_noteRing_36 : decode cX2_noteRing 36 = .ok (.putfield 19, 3) := by decide +kernel
theorem dX2_noteRing_39 : decode cX2_noteRing 39 = .ok (.return_, 1) := by decide +kernel
abbrev rm_X2_noteRing : Room := { frames := 1, cells := 0, slots := 0, locals := 21 }
theorem t_b_X2_noteRing_27 {G : oa_G} {O : oa_O} {A : Nat → Prop} {o : Nat → Nat} {res : oa_I2} (C : oa_C G cX2_noteRing 3 RX2 none rm_X2_noteRing O A) (x1 : Int32) (x2 : Int32)  (R : oa_I2)    (hf : b_X2_noteRing_27 x1 x2 R = some res) : ww G 3 O A (oa_Q G O A (0, 0) none (fun W1 => W1 = wd_R O o res)) (0, 0) 27 [(0, .ref (o 0)), (2, .int x2)] [] (wd_R O o R) := by
  delta b_X2_noteRing_27 at hf
  refine ww_aload_n (pc := 27) (i := 0) C 0 dX2_noteRing_27 rfl rfl ?_
  refine ww_aload_n (pc := 28) (i := 0) C 0 dX2_noteRing_28 rfl rfl ?_
  refine ww_get (pc := 29) C fl_X2_19 0 rfl rfl dX2_noteRing_29 ?_
  refine ww_iload_n (pc := 32) (i := 2) C 1 dX2_noteRing_32 rfl rfl ?_
  refine ww_mmax (pc := 33) C lk_X2_50 hS_J9_max_7cf53 hY_J9_max_7cf53 (Nat.le_of_ble_eq_true rfl) (Nat.le_of_ble_eq_true rfl) ⟨Nat.zero_le _, Nat.zero_le _⟩ dX2_noteRing_33 ?_
  obtain ⟨R7, e8, hf⟩ := oa_letE hf
  refine ww_put (pc := 36) C fl_X2_19 (fun Z => wd_R O o Z) 0 rfl rfl rfl (Nat.le_of_ble_eq_true rfl) e8 rfl dX2_noteRing_36 ?_
  obtain rfl := Option.some.inj hf
  exact ww_vret (pc := 39) C rfl dX2_noteRing_39
theorem t_b_X2_noteRing_17 {G : oa_G} {O : oa_O} {A : Nat → Prop} {o : Nat → Nat} {res : oa_I2} (C : oa_C G cX2_noteRing 3 RX2 none rm_X2_noteRing O A) (x1 : Int32) (x2 : Int32)  (R : oa_I2)    (hf : b_X2_noteRing_17 x1 x2 R = some res) : ww G 3 O A (oa_Q G O A (0, 0) none (fun W1 => W1 = wd_R O o res)) (0, 0) 17 [(0, .ref (o 0)), (1, .int x1), (2, .int x2)] [] (wd_R O o R) := by
  delta b_X2_noteRing_17 at hf
  refine ww_aload_n (pc := 17) (i := 0) C 0 dX2_noteRing_17 rfl rfl ?_
  refine ww_iload_n (pc := 18) (i := 2) C 2 dX2_noteRing_18 rfl rfl ?_
  obtain ⟨R3, e4, hf⟩ := oa_letE hf
  refine ww_put (pc := 19) C fl_X2_15 (fun Z => wd_R O o Z) 0 rfl rfl rfl (Nat.le_of_ble_eq_true rfl) e4 rfl dX2_noteRing_19 ?_
  refine ww_aload_n (pc := 22) (i := 0) C 0 dX2_noteRing_22 rfl rfl ?_
  refine ww_iload_n (pc := 23) (i := 1) C 1 dX2_noteRing_23 rfl rfl ?_
  obtain ⟨R5, e6, hf⟩ := oa_letE hf
  refine ww_put (pc := 24) C fl_X2_22 (fun Z => wd_R O o Z) 0 rfl rfl rfl (Nat.le_of_ble_eq_true rfl) e6 rfl dX2_noteRing_24 ?_
  refine ww_sub C [0, 2] rfl ?_
  exact t_b_X2_noteRing_27 C x1 x2 R5   hf
theorem m_X2_noteRing (l : Launch) (O : oa_O) (o : Nat → Nat) (R : oa_I2) (x1 : Int32) (x2 : Int32) (res : oa_I2) (hf : f_X2_noteRing R x1 x2 = some res) : oa_M l yX2_noteRing cX2_noteRing 3 none rm_X2_noteRing O [.ref (o 0), .int x1, .int x2] (wd_R O o R) none (fun W1 => W1 = wd_R O o res) := by
  refine oa_Mof (by decide) (Nat.le_of_ble_eq_true rfl) (fun G A hl C => ?_)
  subst hl
  have C : oa_C G cX2_noteRing 3 RX2 none rm_X2_noteRing O A := C
  have hf : f_X2_noteRing R x1 x2 = some res := hf
  delta f_X2_noteRing at hf
  show ww G 3 O A (oa_Q G O A (0, 0) none (fun W1 => W1 = wd_R O o res)) (0, 0) 0 [(0, .ref (o 0)), (1, .int x1), (2, .int x2)] [] (wd_R O o R)
  refine ww_aload_n (pc := 0) (i := 0) C 0 dX2_noteRing_0 rfl rfl ?_
  refine ww_get (pc := 1) C fl_X2_15 0 rfl rfl dX2_noteRing_1 ?_
  refine ww_bipush (pc := 4) C dX2_noteRing_4 kb_m4 ?_
  refine ww_icmp_eq (pc := 6) (tgt := 17) C dX2_noteRing_6 (by decide) (fun c1 => ?_) (fun c1 => ?_)
  · have hf := oa_ifp c1 hf
    exact t_b_X2_noteRing_17 C x1 x2 R   hf
  · have hf := oa_ifn c1 hf
    refine ww_iload_n (pc := 9) (i := 2) C 2 dX2_noteRing_9 rfl rfl ?_
    refine ww_aload_n (pc := 10) (i := 0) C 0 dX2_noteRing_10 rfl rfl ?_
    refine ww_get (pc := 11) C fl_X2_15 0 rfl rfl dX2_noteRing_11 ?_
    refine ww_icmp_ge (pc := 14) (tgt := 27) C dX2_noteRing_14 (by decide) (fun c2 => ?_) (fun c2 => ?_)
    · have hf := oa_ifp c2 hf
      refine ww_sub C [0, 2] rfl ?_
      exact t_b_X2_noteRing_27 C x1 x2 R   hf
    · have hf := oa_ifn c2 hf
      exact t_b_X2_noteRing_17 C x1 x2 R   hf
theorem dX2_find_0 : decode cX2_find 0 = .ok (.aload_n 0, 1) := by decide +kernel
theorem dX2_find_1 : decode cX2_find 1 = .ok (.bipush (-4), 2) := by decide +kernel
theorem dX2_find_3 : decode cX2_find 3 = .ok (.putfield 15, 3) := by decide +kernel
theorem dX2_find_6 : decode cX2_find 6 = .ok (.aload_n 0, 1) := by decide +kernel
theorem dX2_find_7 : decode cX2_find 7 = .ok (.bipush (-4), 2) := by decide +kernel
theorem dX2_find_9 : decode cX2_find 9 = .ok (.putfield 19, 3) := by decide +kernel
theorem dX2_find_12 : decode cX2_find 12 = .ok (.aload_n 0, 1) := by decide +kernel
theorem dX2_find_13 : decode cX2_find 13 = .ok (.bipush (-4), 2) := by decide +kernel
theorem dX2_find_15 : decode cX2_find 15 = .ok (.putfield 22, 3) := by decide +kernel
theorem dX2_find_18 : decode cX2_find 18 = .ok (.iconst 1, 1) := by decide +kernel
theorem dX2_find_19 : decode cX2_find 19 = .ok (.istore_n 2, 1) := by decide +kernel
theorem dX2_find_20 : decode cX2_find 20 = .ok (.iload_n 2, 1) := by decide +kernel
theorem dX2_find_21 : decode cX2_find 21 = .ok (.iconst 1, 1) := by decide +kernel
theorem dX2_find_22 : decode cX2_find 22 = .ok (.aload_n 1, 1) := by decide +kernel
theorem dX2_find_23 : decode cX2_find 23 = .ok (.getfield 25, 3) := by decide +kernel
theorem dX2_find_26 : decode cX2_find 26 = .ok (.ishl, 1) := by decide +kernel
theorem dX2_find_27 : decode cX2_find 27 = .ok (.if_icmp .ge 71, 3) := by decide +kernel
theorem dX2_find_30 : decode cX2_find 30 = .ok (.iload_n 2, 1) := by decide +kernel
theorem dX2_find_31 : decode cX2_find 31 = .ok (.invokestatic 30, 3) := by decide +kernel
theorem dX2_find_34 : decode cX2_find 34 = .ok (.istore_n 3, 1) := by decide +kernel
theorem dX2_find_35 : decode cX2_find 35 = .ok (.iload_n 2, 1) := by decide +kernel
theorem dX2_find_36 : decode cX2_find 36 = .ok (.invokestatic 36, 3) := by decide +kernel
theorem dX2_find_39 : decode cX2_find 39 = .ok (.istore 4, 2) := by decide +kernel
theorem dX2_find_41 : decode cX2_find 41 = .ok (.aload_n 0, 1) := by decide +kernel
theorem dX2_find_42 : decode cX2_find 42 = .ok (.getfield 9, 3) := by decide +kernel
theorem dX2_find_45 : decode cX2_find 45 = .ok (.iload_n 2, 1) := by decide +kernel
theorem dX2_find_46 : decode cX2_find 46 = .ok (.iload 4, 2) := by decide +kernel
theorem dX2_find_48 : decode cX2_find 48 = .ok (.iconst 1, 1) := by decide +kernel
theorem dX2_find_49 : decode cX2_find 49 = .ok (.if_icmp .ne 7, 3) := by decide +kernel
theorem dX2_find_52 : decode cX2_find 52 = .ok (.iload_n 2, 1) := by decide +kernel
theorem dX2_find_53 : decode cX2_find 53 = .ok (.goto 10, 3) := by decide +kernel
theorem dX2_find_56 : decode cX2_find 56 = .ok (.aload_n 0, 1) := by decide +kernel
theorem dX2_find_57 : decode cX2_find 57 = .ok (.aload_n 1, 1) := by decide +kernel
theorem dX2_find_58 : decode cX2_find 58 = .ok (.iload_n 2, 1) := by decide +kernel
theorem dX2_find_59 : decode cX2_find 59 = .ok (.iload_n 3, 1) := by decide +kernel
theorem dX2_find_60 : decode cX2_find 60 = .ok (.invokevirtual 39, 3) := by decide +kernel
theorem dX2_find_63 : decode cX2_find 63 = .ok (.iastore, 1) := by decide +kernel
theorem dX2_find_64 : decode cX2_find 64 = .ok (.iload 4, 2) := by decide +kernel
theorem dX2_find_66 : decode cX2_find 66 = .ok (.iconst 1, 1) := by decide +kernel
theorem dX2_find_67 : decode cX2_find 67 = .ok (.if_icmp .le 25, 3) := by decide +kernel
theorem dX2_find_70 : decode cX2_find 70 = .ok (.aload_n 0, 1) := by decide +kernel
theorem dX2_find_71 : decode cX2_find 71 = .ok (.getfield 9, 3) := by decide +kernel
theorem dX2_find_74 : decode cX2_find 74 = .ok (.iload_n 2, 1) := by decide +kernel
theorem dX2_find_75 : decode cX2_find 75 = .ok (.iaload, 1) := by decide +kernel
theorem dX2_find_76 : decode cX2_find 76 = .ok (.aload_n 1, 1) := by decide +kernel
theorem dX2_find_77 : decode cX2_find 77 = .ok (.iload_n 3, 1) := by decide +kernel
theorem dX2_find_78 : decode cX2_find 78 = .ok (.invokevirtual 43, 3) := by decide +kernel
theorem dX2_find_81 : decode cX2_find 81 = .ok (.iand, 1) := by decide +kernel
theorem dX2_find_82 : decode cX2_find 82 = .ok (.ifCond .eq 10, 3) := by decide +kernel
theorem dX2_find_85 : decode cX2_find 85 = .ok (.aload_n 0, 1) := by decide +kernel
theorem dX2_find_86 : decode cX2_find 86 = .ok (.iload_n 2, 1) := by decide +kernel
theorem dX2_find_87 : decode cX2_find 87 = .ok (.iload 4, 2) := by decide +kernel
theorem dX2_find_89 : decode cX2_find 89 = .ok (.invokevirtual 46, 3) := by decide +kernel
theorem dX2_find_92 : decode cX2_find 92 = .ok (.iinc 2 1, 3) := by decide +kernel
theorem dX2_find_95 : decode cX2_find 95 = .ok (.goto (-75), 3) := by decide +kernel
theorem dX2_find_98 : decode cX2_find 98 = .ok (.return_, 1) := by decide +kernel
abbrev rm_X2_find : Room := { frames := 3, cells := 0, slots := 0, locals := 70 }
theorem t_b_X2_find_63 {G : oa_G} {O : oa_O} {A : Nat → Prop} {o : Nat → Nat} {h : Nat → Nat} {res : oa_I2} (C : oa_C G cX2_find 5 RX2 none rm_X2_find O A) (V : oa_I2)  (R : oa_I2) (x2 : Int32) (x3 : Int32) (x4 : Int32) (s1 : Int32) (s2 : Int32) (k20 : oa_I2 → Int32 → Option (oa_I2)) (hk20 : ∀ (b_R : oa_I2) (b_x2 : Int32), k20 b_R b_x2 = some res → ww G 5 O A (oa_Q G O A (0, 0) none (fun W1 => W1 = wd_RV O o h res V)) (0, 0) 20 [(0, .ref (o 0)), (1, .ref (h 0)), (2, .int b_x2)] [] (wd_RV O o h b_R V))  (hf : b_X2_find_63 V k20 R x2 x3 x4 s1 s2 = some res) : ww G 5 O A (oa_Q G O A (0, 0) none (fun W1 => W1 = wd_RV O o h res V)) (0, 0) 63 [(0, .ref (o 0)), (1, .ref (h 0)), (2, .int x2), (3, .int x3), (4, .int x4)] [.int s2, .int s1, .ref (o 1)] (wd_RV O o h R V) := by
  delta b_X2_find_63 at hf
  obtain ⟨g18, e19, hf⟩ := oa_bind hf
  obtain ⟨R20, e21, hf⟩ := oa_letE hf
  refine ww_iast (pc := 63) C (fun Z => wd_RV O o h Z V) 1 rfl e19 e21 rfl dX2_find_63 ?_
  refine ww_iload (pc := 64) (i := 4) C 4 dX2_find_64 rfl ?_
  refine ww_iconst (pc := 66) C dX2_find_66 kc_1 ?_
  refine ww_icmp_le (pc := 67) (tgt := 92) C dX2_find_67 (by decide) (fun c22 => ?_) (fun c22 => ?_)
  · have hf := oa_ifp c22 hf
    refine ww_iinc (pc := 92) (v := (x2 + 1)) (L' := [(0, .ref (o 0)), (1, .ref (h 0)), (2, .int (x2 + 1)), (3, .int x3), (4, .int x4)]) C 2 [1, 2, 0, 3, 4] dX2_find_92 rfl (ki_1 _) (Nat.le_of_ble_eq_true rfl) rfl ?_
    refine ww_goto (pc := 95) (tgt := 20) C dX2_find_95 (by decide) ?_
    refine ww_sub C [0, 1, 2] rfl ?_
    exact hk20 R20 (x2 + 1) hf
  · have hf := oa_ifn c22 hf
    refine ww_aload_n (pc := 70) (i := 0) C 0 dX2_find_70 rfl rfl ?_
    refine ww_get (pc := 71) C fl_X2_9 0 rfl rfl dX2_find_71 ?_
    refine ww_iload_n (pc := 74) (i := 2) C 2 dX2_find_74 rfl rfl ?_
    obtain ⟨y23, e24, hf⟩ := oa_bind hf
    refine ww_iald (pc := 75) C 1 rfl e24 dX2_find_75 ?_
    refine ww_aload_n (pc := 76) (i := 1) C 1 dX2_find_76 rfl rfl ?_
    refine ww_iload_n (pc := 77) (i := 3) C 3 dX2_find_77 rfl rfl ?_
    obtain ⟨y25, e26, hf⟩ := oa_bind hf
    refine ww_callV (pc := 78) (As := [.int x3]) (rest := [.int y23]) (wd := wd_V O h V) (ws' := wd_RV O o h R20 V) (rv := (some (.int y25))) C hY_X5_angryWith hV_X5_angryWith lk_X2_43 (m_X5_angryWith _ O h V x3 _ e26) [2, 3, 4, 5, 6, 7] 2 rfl rfl rfl rfl rfl (oa_putS _ _ _ rfl) (fun _ h => h) ⟨rfl, rfl⟩ ⟨Nat.zero_le _, Nat.zero_le _⟩ ⟨Nat.le_of_ble_eq_true rfl, Nat.le_of_ble_eq_true rfl⟩ rfl (Nat.le_of_ble_eq_true rfl) rfl rfl dX2_find_78 ?_
    refine ww_iand (pc := 81) C dX2_find_81 ?_
    refine ww_if_eq (pc := 82) (tgt := 92) C dX2_find_82 (by decide) (fun c28 => ?_) (fun c28 => ?_)
    · have hf := oa_ifp c28 hf
      refine ww_iinc (pc := 92) (v := (x2 + 1)) (L' := [(0, .ref (o 0)), (1, .ref (h 0)), (2, .int (x2 + 1)), (3, .int x3), (4, .int x4)]) C 2 [1, 2, 0, 3, 4] dX2_find_92 rfl (ki_1 _) (Nat.le_of_ble_eq_true rfl) rfl ?_
      refine ww_goto (pc := 95) (tgt := 20) C dX2_find_95 (by decide) ?_
      refine ww_sub C [0, 1, 2] rfl ?_
      exact hk20 R20 (x2 + 1) hf
    · have hf := oa_ifn c28 hf
      refine ww_aload_n (pc := 85) (i := 0) C 0 dX2_find_85 rfl rfl ?_
      refine ww_iload_n (pc := 86) (i := 2) C 2 dX2_find_86 rfl rfl ?_
      refine ww_iload (pc := 87) (i := 4) C 4 dX2_find_87 rfl ?_
      obtain ⟨R29, e30, hf⟩ := oa_bind hf
      refine ww_callV (pc := 89) (As := [.int x2, .int x4]) (rest := []) (wd := wd_R O o R29) (ws' := wd_RV O o h R29 V) (rv := none) C hY_X2_noteRing hV_X2_noteRing lk_X2_46 (m_X2_noteRing _ O o R20 x2 x4 _ e30) [0, 1] 0 rfl rfl rfl rfl rfl rfl (fun _ h => h) ⟨rfl, rfl⟩ ⟨Nat.zero_le _, Nat.zero_le _⟩ ⟨Nat.le_of_ble_eq_true rfl, Nat.le_of_ble_eq_true rfl⟩ rfl (Nat.le_of_ble_eq_true rfl) rfl rfl dX2_find_89 ?_
      refine ww_iinc (pc := 92) (v := (x2 + 1)) (L' := [(0, .ref (o 0)), (1, .ref (h 0)), (2, .int (x2 + 1)), (3, .int x3), (4, .int x4)]) C 2 [1, 2, 0, 3, 4] dX2_find_92 rfl (ki_1 _) (Nat.le_of_ble_eq_true rfl) rfl ?_
      refine ww_goto (pc := 95) (tgt := 20) C dX2_find_95 (by decide) ?_
      refine ww_sub C [0, 1, 2] rfl ?_
      exact hk20 R29 (x2 + 1) hf
theorem t_b_X2_find_20 {G : oa_G} {O : oa_O} {A : Nat → Prop} {o : Nat → Nat} {h : Nat → Nat} {res : oa_I2} (C : oa_C G cX2_find 5 RX2 none rm_X2_find O A) (V : oa_I2)    (k20 : oa_I2 → Int32 → Option (oa_I2))  (hk20 : ∀ (b_R : oa_I2) (b_x2 : Int32), k20 b_R b_x2 = some res → ww G 5 O A (oa_Q G O A (0, 0) none (fun W1 => W1 = wd_RV O o h res V)) (0, 0) 20 [(0, .ref (o 0)), (1, .ref (h 0)), (2, .int b_x2)] [] (wd_RV O o h b_R V)) (R : oa_I2) (x2 : Int32) (hf : b_X2_find_20 V k20 R x2 = some res) : ww G 5 O A (oa_Q G O A (0, 0) none (fun W1 => W1 = wd_RV O o h res V)) (0, 0) 20 [(0, .ref (o 0)), (1, .ref (h 0)), (2, .int x2)] [] (wd_RV O o h R V) := by
  delta b_X2_find_20 at hf
  refine ww_iload_n (pc := 20) (i := 2) C 2 dX2_find_20 rfl rfl ?_
  refine ww_iconst (pc := 21) C dX2_find_21 kc_1 ?_
  refine ww_aload_n (pc := 22) (i := 1) C 1 dX2_find_22 rfl rfl ?_
  refine ww_get (pc := 23) C fl_X2_25 2 rfl rfl dX2_find_23 ?_
  refine ww_ishl (pc := 26) C dX2_find_26 ?_
  refine ww_icmp_ge (pc := 27) (tgt := 98) C dX2_find_27 (by decide) (fun c7 => ?_) (fun c7 => ?_)
  · have hf := oa_ifp c7 hf
    obtain rfl := Option.some.inj hf
    exact ww_vret (pc := 98) C rfl dX2_find_98
  · have hf := oa_ifn c7 hf
    refine ww_iload_n (pc := 30) (i := 2) C 2 dX2_find_30 rfl rfl ?_
    obtain ⟨y8, e9, hf⟩ := oa_bind hf
    refine ww_callS (pc := 31) (As := [.int x2]) (rest := []) (wd := []) (ws' := wd_RV O o h R V) (rv := (some (.int y8))) C hY_J6_numberOfTrailingZeros_0f7a4 hS_J6_numberOfTrailingZeros_0f7a4 lk_X2_30 (m_J6_numberOfTrailingZeros_0f7a4 _ O  x2 _ e9) [] rfl rfl rfl (oa_putS _ _ _ rfl) (fun _ h => h) ⟨rfl, rfl⟩ ⟨Nat.zero_le _, Nat.zero_le _⟩ ⟨Nat.le_of_ble_eq_true rfl, Nat.le_of_ble_eq_true rfl⟩ rfl (Nat.le_of_ble_eq_true rfl) rfl rfl dX2_find_31 ?_
    refine ww_istore_n (pc := 34) (L' := [(0, .ref (o 0)), (1, .ref (h 0)), (2, .int x2), (3, .int y8)]) C [1, 2, 3, 0] dX2_find_34 rfl (Nat.le_of_ble_eq_true rfl) rfl ?_
    refine ww_iload_n (pc := 35) (i := 2) C 2 dX2_find_35 rfl rfl ?_
    obtain ⟨y11, e12, hf⟩ := oa_bind hf
    refine ww_callS (pc := 36) (As := [.int x2]) (rest := []) (wd := []) (ws' := wd_RV O o h R V) (rv := (some (.int y11))) C hY_J6_bitCount_0f7a4 hS_J6_bitCount_0f7a4 lk_X2_36 (m_J6_bitCount_0f7a4 _ O  x2 _ e12) [] rfl rfl rfl (oa_putS _ _ _ rfl) (fun _ h => h) ⟨rfl, rfl⟩ ⟨Nat.zero_le _, Nat.zero_le _⟩ ⟨Nat.le_of_ble_eq_true rfl, Nat.le_of_ble_eq_true rfl⟩ rfl (Nat.le_of_ble_eq_true rfl) rfl rfl dX2_find_36 ?_
    refine ww_istore (pc := 39) (L' := [(0, .ref (o 0)), (1, .ref (h 0)), (2, .int x2), (3, .int y8), (4, .int y11)]) C [1, 2, 3, 4, 0] dX2_find_39 (Nat.le_of_ble_eq_true rfl) rfl ?_
    refine ww_aload_n (pc := 41) (i := 0) C 0 dX2_find_41 rfl rfl ?_
    refine ww_get (pc := 42) C fl_X2_9 0 rfl rfl dX2_find_42 ?_
    refine ww_iload_n (pc := 45) (i := 2) C 2 dX2_find_45 rfl rfl ?_
    refine ww_iload (pc := 46) (i := 4) C 4 dX2_find_46 rfl ?_
    refine ww_iconst (pc := 48) C dX2_find_48 kc_1 ?_
    refine ww_icmp_ne (pc := 49) (tgt := 56) C dX2_find_49 (by decide) (fun c14 => ?_) (fun c14 => ?_)
    · have hf := oa_ifn c14 hf
      refine ww_aload_n (pc := 56) (i := 0) C 0 dX2_find_56 rfl rfl ?_
      refine ww_aload_n (pc := 57) (i := 1) C 1 dX2_find_57 rfl rfl ?_
      refine ww_iload_n (pc := 58) (i := 2) C 2 dX2_find_58 rfl rfl ?_
      refine ww_iload_n (pc := 59) (i := 3) C 3 dX2_find_59 rfl rfl ?_
      obtain ⟨y15, e16, hf⟩ := oa_bind hf
      refine ww_callV (pc := 60) (As := [.ref (h 0), .int x2, .int y8]) (rest := [.int x2, .ref (o 1)]) (wd := wd_RV O o h R V) (ws' := wd_RV O o h R V) (rv := (some (.int y15))) C hY_X2_endsOf hV_X2_endsOf lk_X2_39 (m_X2_endsOf _ O o h R V x2 y8 _ e16) [0, 1, 2, 3, 4, 5, 6, 7] 0 rfl rfl rfl rfl rfl (oa_putS _ _ _ rfl) (fun _ h => h) ⟨rfl, rfl⟩ ⟨Nat.zero_le _, Nat.zero_le _⟩ ⟨Nat.le_of_ble_eq_true rfl, Nat.le_of_ble_eq_true rfl⟩ rfl (Nat.le_of_ble_eq_true rfl) rfl rfl dX2_find_60 ?_
      exact t_b_X2_find_63 C V R x2 y8 y11 x2 y15 k20 hk20 hf
    · have hf := oa_ifp c14 hf
      refine ww_iload_n (pc := 52) (i := 2) C 2 dX2_find_52 rfl rfl ?_
      refine ww_goto (pc := 53) (tgt := 63) C dX2_find_53 (by decide) ?_
      exact t_b_X2_find_63 C V R x2 y8 y11 x2 x2 k20 hk20 hf
theorem t_l_X2_find_20 {G : oa_G} {O : oa_O} {A : Nat → Prop} {o : Nat → Nat} {h : Nat → Nat} {res : oa_I2} (C : oa_C G cX2_find 5 RX2 none rm_X2_find O A) (V : oa_I2)    : ∀ (n : Nat) (R : oa_I2) (x2 : Int32), l_X2_find_20 V n R x2 = some res → ww G 5 O A (oa_Q G O A (0, 0) none (fun W1 => W1 = wd_RV O o h res V)) (0, 0) 20 [(0, .ref (o 0)), (1, .ref (h 0)), (2, .int x2)] [] (wd_RV O o h R V) := by
  intro n
  induction n with
  | zero => intro R x2 hf; exact absurd (show (none : Option (oa_I2)) = some res from hf) (fun h => nomatch h)
  | succ n ih =>
    intro R x2 hf
    exact t_b_X2_find_20 C V  (fun R x2 => l_X2_find_20 V n R x2)  (fun R x2 h => ih R x2 h) R x2 hf
theorem m_X2_find (l : Launch) (O : oa_O) (o : Nat → Nat) (h : Nat → Nat) (R : oa_I2) (V : oa_I2)  (res : oa_I2) (hf : f_X2_find R V = some res) : oa_M l yX2_find cX2_find 5 none rm_X2_find O [.ref (o 0), .ref (h 0)] (wd_RV O o h R V) none (fun W1 => W1 = wd_RV O o h res V) := by
  refine oa_Mof (by decide) (Nat.le_of_ble_eq_true rfl) (fun G A hl C => ?_)
  subst hl
  have C : oa_C G cX2_find 5 RX2 none rm_X2_find O A := C
  have hf : f_X2_find R V = some res := hf
  delta f_X2_find at hf
  show ww G 5 O A (oa_Q G O A (0, 0) none (fun W1 => W1 = wd_RV O o h res V)) (0, 0) 0 [(0, .ref (o 0)), (1, .ref (h 0))] [] (wd_RV O o h R V)
  refine ww_aload_n (pc := 0) (i := 0) C 0 dX2_find_0 rfl rfl ?_
  refine ww_bipush (pc := 1) C dX2_find_1 kb_m4 ?_
  obtain ⟨R1, e2, hf⟩ := oa_letE hf
  refine ww_put (pc := 3) C fl_X2_15 (fun Z => wd_RV O o h Z V) 0 rfl rfl rfl (Nat.le_of_ble_eq_true rfl) e2 rfl dX2_find_3 ?_
  refine ww_aload_n (pc := 6) (i := 0) C 0 dX2_find_6 rfl rfl ?_
  refine ww_bipush (pc := 7) C dX2_find_7 kb_m4 ?_
  obtain ⟨R3, e4, hf⟩ := oa_letE hf
  refine ww_put (pc := 9) C fl_X2_19 (fun Z => wd_RV O o h Z V) 0 rfl rfl rfl (Nat.le_of_ble_eq_true rfl) e4 rfl dX2_find_9 ?_
  refine ww_aload_n (pc := 12) (i := 0) C 0 dX2_find_12 rfl rfl ?_
  refine ww_bipush (pc := 13) C dX2_find_13 kb_m4 ?_
  obtain ⟨R5, e6, hf⟩ := oa_letE hf
  refine ww_put (pc := 15) C fl_X2_22 (fun Z => wd_RV O o h Z V) 0 rfl rfl rfl (Nat.le_of_ble_eq_true rfl) e6 rfl dX2_find_15 ?_
  refine ww_iconst (pc := 18) C dX2_find_18 kc_1 ?_
  refine ww_istore_n (pc := 19) (L' := [(0, .ref (o 0)), (1, .ref (h 0)), (2, .int 1)]) C [1, 2, 0] dX2_find_19 rfl (Nat.le_of_ble_eq_true rfl) rfl ?_
  exact t_l_X2_find_20 C V    oa_fu R5 1 hf
theorem dX3_faultAs_0 : decode cX3_faultAs 0 = .ok (.aload_n 0, 1) := by decide +kernel
theorem dX3_faultAs_1 : decode cX3_faultAs 1 = .ok (.getfield 15, 3) := by decide +kernel
theorem dX3_faultAs_4 : decode cX3_faultAs 4 = .ok (.bipush (-4), 2) := by decide +kernel
theorem dX3_faultAs_6 : decode cX3_faultAs 6 = .ok (.if_icmp .ne 5, 3) := by decide +kernel
theorem dX3_faultAs_9 : decode cX3_faultAs 9 = .ok (.iconst 1, 1) := by decide +kernel
theorem dX3_faultAs_10 : decode cX3_faultAs 10 = .ok (.ireturn, 1) := by decide +kernel
theorem dX3_faultAs_11 : decode cX3_faultAs 11 = .ok (.iload_n 1, 1) := by decide +kernel
theorem dX3_faultAs_12 : decode cX3_faultAs 12 = .ok (.aload_n 0, 1) := by decide +kernel
theorem dX3_faultAs_13 : decode cX3_faultAs 13 = .ok (.getfield 25, 3) := by decide +kernel
theorem dX3_faultAs_16 : decode cX3_faultAs 16 = .ok (.if_icmp .ne 7, 3) := by decide +kernel
theorem dX3_faultAs_19 : decode cX3_faultAs 19 = .ok (.iconst 0, 1) := by decide +kernel
theorem dX3_faultAs_20 : decode cX3_faultAs 20 = .ok (.goto 4, 3) := by decide +kernel
theorem dX3_faultAs_23 : decode cX3_faultAs 23 = .ok (.iconst 3, 1) := by decide +kernel
theorem dX3_faultAs_24 : decode cX3_faultAs 24 = .ok (.ireturn, 1) := by decide +kernel
abbrev rm_X3_faultAs : Room := { frames := 0, cells := 0, slots := 0, locals := 0 }
theorem m_X3_faultAs (l : Launch) (O : oa_O) (o : Nat → Nat) (S : oa_I2) (x1 : Int32) (res : Int32) (hf : f_X3_faultAs S x1 = some res) : oa_M l yX3_faultAs cX3_faultAs 2 (some .int) rm_X3_faultAs O [.ref (o 0), .int x1] (wd_S O o S) (some (.int res)) (fun W1 => W1 = wd_S O o S) := by
  refine oa_Mof (by decide) (Nat.le_of_ble_eq_true rfl) (fun G A hl C => ?_)
  subst hl
  have C : oa_C G cX3_faultAs 2 RX3 (some .int) rm_X3_faultAs O A := C
  have hf : f_X3_faultAs S x1 = some res := hf
  delta f_X3_faultAs at hf
  show ww G 2 O A (oa_Q G O A (0, 0) (some (.int res)) (fun W1 => W1 = wd_S O o S)) (0, 0) 0 [(0, .ref (o 0)), (1, .int x1)] [] (wd_S O o S)
  refine ww_aload_n (pc := 0) (i := 0) C 0 dX3_faultAs_0 rfl rfl ?_
  refine ww_get (pc := 1) C fl_X3_15 0 rfl rfl dX3_faultAs_1 ?_
  refine ww_bipush (pc := 4) C dX3_faultAs_4 kb_m4 ?_
  refine ww_icmp_ne (pc := 6) (tgt := 11) C dX3_faultAs_6 (by decide) (fun c1 => ?_) (fun c1 => ?_)
  · have hf := oa_ifn c1 hf
    refine ww_iload_n (pc := 11) (i := 1) C 1 dX3_faultAs_11 rfl rfl ?_
    refine ww_aload_n (pc := 12) (i := 0) C 0 dX3_faultAs_12 rfl rfl ?_
    refine ww_get (pc := 13) C fl_X3_25 0 rfl rfl dX3_faultAs_13 ?_
    refine ww_icmp_ne (pc := 16) (tgt := 23) C dX3_faultAs_16 (by decide) (fun c2 => ?_) (fun c2 => ?_)
    · have hf := oa_ifn c2 hf
      refine ww_iconst (pc := 23) C dX3_faultAs_23 kc_3 ?_
      obtain rfl := Option.some.inj hf
      exact ww_iret (pc := 24) C rfl dX3_faultAs_24
    · have hf := oa_ifp c2 hf
      refine ww_iconst (pc := 19) C dX3_faultAs_19 kc_0 ?_
      refine ww_goto (pc := 20) (tgt := 24) C dX3_faultAs_20 (by decide) ?_
      obtain rfl := Option.some.inj hf
      exact ww_iret (pc := 24) C rfl dX3_faultAs_24
  · have hf := oa_ifp c1 hf
    refine ww_iconst (pc := 9) C dX3_faultAs_9 kc_1 ?_
    obtain rfl := Option.some.inj hf
    exact ww_iret (pc := 10) C rfl dX3_faultAs_10
theorem dX3_hasCell_0 : decode cX3_hasCell 0 = .ok (.lload_n 1, 1) := by decide +kernel
theorem dX3_hasCell_1 : decode cX3_hasCell 1 = .ok (.lconst 0, 1) := by decide +kernel
theorem dX3_hasCell_2 : decode cX3_hasCell 2 = .ok (.lcmp, 1) := by decide +kernel
theorem dX3_hasCell_3 : decode cX3_hasCell 3 = .ok (.ifCond .lt 17, 3) := by decide +kernel
theorem dX3_hasCell_6 : decode cX3_hasCell 6 = .ok (.lload_n 1, 1) := by decide +kernel
theorem dX3_hasCell_7 : decode cX3_hasCell 7 = .ok (.aload_n 0, 1) := by decide +kernel
theorem dX3_hasCell_8 : decode cX3_hasCell 8 = .ok (.getfield 15, 3) := by decide +kernel
theorem dX3_hasCell_11 : decode cX3_hasCell 11 = .ok (.i2l, 1) := by decide +kernel
theorem dX3_hasCell_12 : decode cX3_hasCell 12 = .ok (.lcmp, 1) := by decide +kernel
theorem dX3_hasCell_13 : decode cX3_hasCell 13 = .ok (.ifCond .ge 7, 3) := by decide +kernel
theorem dX3_hasCell_16 : decode cX3_hasCell 16 = .ok (.iconst 1, 1) := by decide +kernel
theorem dX3_hasCell_17 : decode cX3_hasCell 17 = .ok (.goto 4, 3) := by decide +kernel
theorem dX3_hasCell_20 : decode cX3_hasCell 20 = .ok (.iconst 0, 1) := by decide +kernel
theorem dX3_hasCell_21 : decode cX3_hasCell 21 = .ok (.ireturn, 1) := by decide +kernel
abbrev rm_X3_hasCell : Room := { frames := 0, cells := 0, slots := 0, locals := 0 }
theorem m_X3_hasCell (l : Launch) (O : oa_O) (o : Nat → Nat) (S : oa_I2) (x1 : Int64) (res : Int32) (hf : f_X3_hasCell S x1 = some res) : oa_M l yX3_hasCell cX3_hasCell 3 (some .boolean) rm_X3_hasCell O [.ref (o 0), .long x1] (wd_S O o S) (some (.int res)) (fun W1 => W1 = wd_S O o S) := by
  refine oa_Mof (by decide) (Nat.le_of_ble_eq_true rfl) (fun G A hl C => ?_)
  subst hl
  have C : oa_C G cX3_hasCell 3 RX3 (some .boolean) rm_X3_hasCell O A := C
  have hf : f_X3_hasCell S x1 = some res := hf
  delta f_X3_hasCell at hf
  show ww G 3 O A (oa_Q G O A (0, 0) (some (.int res)) (fun W1 => W1 = wd_S O o S)) (0, 0) 0 [(0, .ref (o 0)), (1, .long x1)] [] (wd_S O o S)
  refine ww_lload_n (pc := 0) (i := 1) C 1 dX3_hasCell_0 rfl rfl ?_
  refine ww_lconst (pc := 1) C dX3_hasCell_1 kl_0 ?_
  refine ww_lcmp (pc := 2) C dX3_hasCell_2 ?_
  refine ww_if_lt (pc := 3) (tgt := 20) C dX3_hasCell_3 (by decide) (fun c1 => ?_) (fun c1 => ?_)
  · have hf := oa_ifp c1 hf
    refine ww_iconst (pc := 20) C dX3_hasCell_20 kc_0 ?_
    obtain rfl := Option.some.inj hf
    exact ww_zret (pc := 21) C kz_0 rfl dX3_hasCell_21
  · have hf := oa_ifn c1 hf
    refine ww_lload_n (pc := 6) (i := 1) C 1 dX3_hasCell_6 rfl rfl ?_
    refine ww_aload_n (pc := 7) (i := 0) C 0 dX3_hasCell_7 rfl rfl ?_
    refine ww_get (pc := 8) C fl_X3_15 0 rfl rfl dX3_hasCell_8 ?_
    refine ww_i2l (pc := 11) C dX3_hasCell_11 ?_
    refine ww_lcmp (pc := 12) C dX3_hasCell_12 ?_
    refine ww_if_ge (pc := 13) (tgt := 20) C dX3_hasCell_13 (by decide) (fun c2 => ?_) (fun c2 => ?_)
    · have hf := oa_ifp c2 hf
      refine ww_iconst (pc := 20) C dX3_hasCell_20 kc_0 ?_
      obtain rfl := Option.some.inj hf
      exact ww_zret (pc := 21) C kz_0 rfl dX3_hasCell_21
    · have hf := oa_ifn c2 hf
      refine ww_iconst (pc := 16) C dX3_hasCell_16 kc_1 ?_
      refine ww_goto (pc := 17) (tgt := 21) C dX3_hasCell_17 (by decide) ?_
      obtain rfl := Option.some.inj hf
      exact ww_zret (pc := 21) C kz_1 rfl dX3_hasCell_21
theorem dX3_lowestBits_0 : decode cX3_lowestBits 0 = .ok (.aload_n 0, 1) := by decide +kernel
theorem dX3_lowestBits_1 : decode cX3_lowestBits 1 = .ok (.getfield 25, 3) := by decide +kernel
theorem dX3_lowestBits_4 : decode cX3_lowestBits 4 = .ok (.lookupswitch 34 #[(0, 28), (1, 31)], 28) := by decide +kernel
theorem dX3_lowestBits_32 : decode cX3_lowestBits 32 = .ok (.iload_n 1, 1) := by decide +kernel
theorem dX3_lowestBits_33 : decode cX3_lowestBits 33 = .ok (.i2b, 1) := by decide +kernel
theorem dX3_lowestBits_34 : decode cX3_lowestBits 34 = .ok (.ireturn, 1) := by decide +kernel
theorem dX3_lowestBits_35 : decode cX3_lowestBits 35 = .ok (.iload_n 1, 1) := by decide +kernel
theorem dX3_lowestBits_36 : decode cX3_lowestBits 36 = .ok (.i2s, 1) := by decide +kernel
theorem dX3_lowestBits_37 : decode cX3_lowestBits 37 = .ok (.ireturn, 1) := by decide +kernel
theorem dX3_lowestBits_38 : decode cX3_lowestBits 38 = .ok (.iload_n 1, 1) := by decide +kernel
theorem dX3_lowestBits_39 : decode cX3_lowestBits 39 = .ok (.ireturn, 1) := by decide +kernel
abbrev rm_X3_lowestBits : Room := { frames := 0, cells := 0, slots := 0, locals := 0 }
theorem m_X3_lowestBits (l : Launch) (O : oa_O) (o : Nat → Nat) (S : oa_I2) (x1 : Int32) (res : Int32) (hf : f_X3_lowestBits S x1 = some res) : oa_M l yX3_lowestBits cX3_lowestBits 2 (some .int) rm_X3_lowestBits O [.ref (o 0), .int x1] (wd_S O o S) (some (.int res)) (fun W1 => W1 = wd_S O o S) := by
  refine oa_Mof (by decide) (Nat.le_of_ble_eq_true rfl) (fun G A hl C => ?_)
  subst hl
  have C : oa_C G cX3_lowestBits 2 RX3 (some .int) rm_X3_lowestBits O A := C
  have hf : f_X3_lowestBits S x1 = some res := hf
  delta f_X3_lowestBits at hf
  show ww G 2 O A (oa_Q G O A (0, 0) (some (.int res)) (fun W1 => W1 = wd_S O o S)) (0, 0) 0 [(0, .ref (o 0)), (1, .int x1)] [] (wd_S O o S)
  refine ww_aload_n (pc := 0) (i := 0) C 0 dX3_lowestBits_0 rfl rfl ?_
  refine ww_get (pc := 1) C fl_X3_25 0 rfl rfl dX3_lowestBits_1 ?_
  by_cases c1 : (S 1 1) = 0
  · have hf := oa_ifp c1 hf
    refine ww_look (pc := 4) (tgt := 32) C dX3_lowestBits_4 (by decide) (by rw [c1] <;> rfl) (by decide) ?_
    refine ww_iload_n (pc := 32) (i := 1) C 1 dX3_lowestBits_32 rfl rfl ?_
    refine ww_i2b (pc := 33) C dX3_lowestBits_33 ?_
    obtain rfl := Option.some.inj hf
    exact ww_iret (pc := 34) C rfl dX3_lowestBits_34
  have hf := oa_ifn c1 hf
  by_cases c2 : (S 1 1) = 1
  · have hf := oa_ifp c2 hf
    refine ww_look (pc := 4) (tgt := 35) C dX3_lowestBits_4 (by decide) (by rw [c2] <;> rfl) (by decide) ?_
    refine ww_iload_n (pc := 35) (i := 1) C 1 dX3_lowestBits_35 rfl rfl ?_
    refine ww_i2s (pc := 36) C dX3_lowestBits_36 ?_
    obtain rfl := Option.some.inj hf
    exact ww_iret (pc := 37) C rfl dX3_lowestBits_37
  have hf := oa_ifn c2 hf
  refine ww_look (pc := 4) (off := 34) (tgt := 38) C dX3_lowestBits_4 (by decide) (lo_0_1_28_31_34 c1 c2) (by decide) ?_
  refine ww_iload_n (pc := 38) (i := 1) C 1 dX3_lowestBits_38 rfl rfl ?_
  obtain rfl := Option.some.inj hf
  exact ww_iret (pc := 39) C rfl dX3_lowestBits_39
theorem dX3_put_0 : decode cX3_put 0 = .ok (.aload_n 0, 1) := by decide +kernel
theorem dX3_put_1 : decode cX3_put 1 = .ok (.getfield 15, 3) := by decide +kernel
theorem dX3_put_4 : decode cX3_put 4 = .ok (.bipush (-4), 2) := by decide +kernel
theorem dX3_put_6 : decode cX3_put 6 = .ok (.if_icmp .ne 5, 3) := by decide +kernel
theorem dX3_put_9 : decode cX3_put 9 = .ok (.iconst 1, 1) := by decide +kernel
theorem dX3_put_10 : decode cX3_put 10 = .ok (.ireturn, 1) := by decide +kernel
theorem dX3_put_11 : decode cX3_put 11 = .ok (.aload_n 0, 1) := by decide +kernel
theorem dX3_put_12 : decode cX3_put 12 = .ok (.iload_n 1, 1) := by decide +kernel
theorem dX3_put_13 : decode cX3_put 13 = .ok (.i2l, 1) := by decide +kernel
theorem dX3_put_14 : decode cX3_put 14 = .ok (.invokevirtual 28, 3) := by decide +kernel
theorem dX3_put_17 : decode cX3_put 17 = .ok (.ifCond .ne 5, 3) := by decide +kernel
theorem dX3_put_20 : decode cX3_put 20 = .ok (.iconst 2, 1) := by decide +kernel
theorem dX3_put_21 : decode cX3_put 21 = .ok (.ireturn, 1) := by decide +kernel
theorem dX3_put_22 : decode cX3_put 22 = .ok (.aload_n 0, 1) := by decide +kernel
theorem dX3_put_23 : decode cX3_put 23 = .ok (.getfield 9, 3) := by decide +kernel
theorem dX3_put_26 : decode cX3_put 26 = .ok (.iload_n 1, 1) := by decide +kernel
theorem dX3_put_27 : decode cX3_put 27 = .ok (.aload_n 0, 1) := by decide +kernel
theorem dX3_put_28 : decode cX3_put 28 = .ok (.iload_n 2, 1) := by decide +kernel
theorem dX3_put_29 : decode cX3_put 29 = .ok (.invokevirtual 32, 3) := by decide +kernel
theorem dX3_put_32 : decode cX3_put 32 = .ok (.iastore, 1) := by decide +kernel
theorem dX3_put_33 : decode cX3_put 33 = .ok (.iconst 0, 1) := by decide +kernel
theorem dX3_put_34 : decode cX3_put 34 = .ok (.ireturn, 1) := by decide +kernel
abbrev rm_X3_put : Room := { frames := 1, cells := 0, slots := 0, locals := 22 }
theorem m_X3_put (l : Launch) (O : oa_O) (o : Nat → Nat) (S : oa_I2) (x1 : Int32) (x2 : Int32) (res : Int32 × oa_I2) (hf : f_X3_put S x1 x2 = some res) : oa_M l yX3_put cX3_put 3 (some .int) rm_X3_put O [.ref (o 0), .int x1, .int x2] (wd_S O o S) (some (.int res.1)) (fun W1 => W1 = wd_S O o res.2) := by
  refine oa_Mof (by decide) (Nat.le_of_ble_eq_true rfl) (fun G A hl C => ?_)
  subst hl
  have C : oa_C G cX3_put 3 RX3 (some .int) rm_X3_put O A := C
  have hf : f_X3_put S x1 x2 = some res := hf
  delta f_X3_put at hf
  show ww G 3 O A (oa_Q G O A (0, 0) (some (.int res.1)) (fun W1 => W1 = wd_S O o res.2)) (0, 0) 0 [(0, .ref (o 0)), (1, .int x1), (2, .int x2)] [] (wd_S O o S)
  refine ww_aload_n (pc := 0) (i := 0) C 0 dX3_put_0 rfl rfl ?_
  refine ww_get (pc := 1) C fl_X3_15 0 rfl rfl dX3_put_1 ?_
  refine ww_bipush (pc := 4) C dX3_put_4 kb_m4 ?_
  refine ww_icmp_ne (pc := 6) (tgt := 11) C dX3_put_6 (by decide) (fun c1 => ?_) (fun c1 => ?_)
  · have hf := oa_ifn c1 hf
    refine ww_aload_n (pc := 11) (i := 0) C 0 dX3_put_11 rfl rfl ?_
    refine ww_iload_n (pc := 12) (i := 1) C 1 dX3_put_12 rfl rfl ?_
    refine ww_i2l (pc := 13) C dX3_put_13 ?_
    obtain ⟨y2, e3, hf⟩ := oa_bind hf
    refine ww_callV (pc := 14) (As := [.long (Int32.toInt64 x1)]) (rest := []) (wd := wd_S O o S) (ws' := wd_S O o S) (rv := (some (.int y2))) C hY_X3_hasCell hV_X3_hasCell lk_X3_28 (m_X3_hasCell _ O o S (Int32.toInt64 x1) _ e3) [0, 1] 0 rfl rfl rfl rfl rfl (oa_putS _ _ _ rfl) (fun _ h => h) ⟨rfl, rfl⟩ ⟨Nat.zero_le _, Nat.zero_le _⟩ ⟨Nat.le_of_ble_eq_true rfl, Nat.le_of_ble_eq_true rfl⟩ rfl (Nat.le_of_ble_eq_true rfl) rfl rfl dX3_put_14 ?_
    refine ww_if_ne (pc := 17) (tgt := 22) C dX3_put_17 (by decide) (fun c5 => ?_) (fun c5 => ?_)
    · have hf := oa_ifn c5 hf
      refine ww_aload_n (pc := 22) (i := 0) C 0 dX3_put_22 rfl rfl ?_
      refine ww_get (pc := 23) C fl_X3_9 0 rfl rfl dX3_put_23 ?_
      refine ww_iload_n (pc := 26) (i := 1) C 1 dX3_put_26 rfl rfl ?_
      refine ww_aload_n (pc := 27) (i := 0) C 0 dX3_put_27 rfl rfl ?_
      refine ww_iload_n (pc := 28) (i := 2) C 2 dX3_put_28 rfl rfl ?_
      obtain ⟨y6, e7, hf⟩ := oa_bind hf
      refine ww_callV (pc := 29) (As := [.int x2]) (rest := [.int x1, .ref (o 1)]) (wd := wd_S O o S) (ws' := wd_S O o S) (rv := (some (.int y6))) C hY_X3_lowestBits hV_X3_lowestBits lk_X3_32 (m_X3_lowestBits _ O o S x2 _ e7) [0, 1] 0 rfl rfl rfl rfl rfl (oa_putS _ _ _ rfl) (fun _ h => h) ⟨rfl, rfl⟩ ⟨Nat.zero_le _, Nat.zero_le _⟩ ⟨Nat.le_of_ble_eq_true rfl, Nat.le_of_ble_eq_true rfl⟩ rfl (Nat.le_of_ble_eq_true rfl) rfl rfl dX3_put_29 ?_
      obtain ⟨g9, e10, hf⟩ := oa_bind hf
      obtain ⟨S11, e12, hf⟩ := oa_letE hf
      refine ww_iast (pc := 32) C (fun Z => wd_S O o Z) 1 rfl e10 e12 rfl dX3_put_32 ?_
      refine ww_iconst (pc := 33) C dX3_put_33 kc_0 ?_
      obtain rfl := Option.some.inj hf
      exact ww_iret (pc := 34) C rfl dX3_put_34
    · have hf := oa_ifp c5 hf
      refine ww_iconst (pc := 20) C dX3_put_20 kc_2 ?_
      obtain rfl := Option.some.inj hf
      exact ww_iret (pc := 21) C rfl dX3_put_21
  · have hf := oa_ifp c1 hf
    refine ww_iconst (pc := 9) C dX3_put_9 kc_1 ?_
    obtain rfl := Option.some.inj hf
    exact ww_iret (pc := 10) C rfl dX3_put_10
theorem dX3_renew_0 : decode cX3_renew 0 = .ok (.aload_n 0, 1) := by decide +kernel
theorem dX3_renew_1 : decode cX3_renew 1 = .ok (.getfield 9, 3) := by decide +kernel
theorem dX3_renew_4 : decode cX3_renew 4 = .ok (.iconst 0, 1) := by decide +kernel
theorem dX3_renew_5 : decode cX3_renew 5 = .ok (.invokestatic 19, 3) := by decide +kernel
theorem dX3_renew_8 : decode cX3_renew 8 = .ok (.aload_n 0, 1) := by decide +kernel
theorem dX3_renew_9 : decode cX3_renew 9 = .ok (.iload_n 1, 1) := by decide +kernel
theorem dX3_renew_10 : decode cX3_renew 10 = .ok (.putfield 25, 3) := by decide +kernel
theorem dX3_renew_13 : decode cX3_renew 13 = .ok (.aload_n 0, 1) := by decide +kernel
theorem dX3_renew_14 : decode cX3_renew 14 = .ok (.iload_n 2, 1) := by decide +kernel
theorem dX3_renew_15 : decode cX3_renew 15 = .ok (.putfield 15, 3) := by decide +kernel
theorem dX3_renew_18 : decode cX3_renew 18 = .ok (.return_, 1) := by decide +kernel
abbrev rm_X3_renew : Room := { frames := 1, cells := 0, slots := 0, locals := 23 }
theorem m_X3_renew (l : Launch) (O : oa_O) (o : Nat → Nat) (S : oa_I2) (x1 : Int32) (x2 : Int32) (res : oa_I2) (hf : f_X3_renew S x1 x2 = some res) : oa_M l yX3_renew cX3_renew 3 none rm_X3_renew O [.ref (o 0), .int x1, .int x2] (wd_S O o S) none (fun W1 => W1 = wd_S O o res) := by
  refine oa_Mof (by decide) (Nat.le_of_ble_eq_true rfl) (fun G A hl C => ?_)
  subst hl
  have C : oa_C G cX3_renew 3 RX3 none rm_X3_renew O A := C
  have hf : f_X3_renew S x1 x2 = some res := hf
  delta f_X3_renew at hf
  show ww G 3 O A (oa_Q G O A (0, 0) none (fun W1 => W1 = wd_S O o res)) (0, 0) 0 [(0, .ref (o 0)), (1, .int x1), (2, .int x2)] [] (wd_S O o S)
  refine ww_aload_n (pc := 0) (i := 0) C 0 dX3_renew_0 rfl rfl ?_
  refine ww_get (pc := 1) C fl_X3_9 0 rfl rfl dX3_renew_1 ?_
  refine ww_iconst (pc := 4) C dX3_renew_4 kc_0 ?_
  obtain ⟨S1, e2, hf⟩ := oa_letE hf
  refine ww_fill (pc := 5) (rest := []) C lk_X3_19 (fun Z => wd_S O o Z) 1 rfl e2 rfl (by decide) ⟨Nat.le_of_ble_eq_true rfl, Nat.le_of_ble_eq_true rfl⟩ ⟨Nat.zero_le _, Nat.zero_le _⟩ (Nat.le_of_ble_eq_true rfl) dX3_renew_5 ?_
  refine ww_aload_n (pc := 8) (i := 0) C 0 dX3_renew_8 rfl rfl ?_
  refine ww_iload_n (pc := 9) (i := 1) C 1 dX3_renew_9 rfl rfl ?_
  obtain ⟨S3, e4, hf⟩ := oa_letE hf
  refine ww_put (pc := 10) C fl_X3_25 (fun Z => wd_S O o Z) 0 rfl rfl rfl (Nat.le_of_ble_eq_true rfl) e4 rfl dX3_renew_10 ?_
  refine ww_aload_n (pc := 13) (i := 0) C 0 dX3_renew_13 rfl rfl ?_
  refine ww_iload_n (pc := 14) (i := 2) C 2 dX3_renew_14 rfl rfl ?_
  obtain ⟨S5, e6, hf⟩ := oa_letE hf
  refine ww_put (pc := 15) C fl_X3_15 (fun Z => wd_S O o Z) 0 rfl rfl rfl (Nat.le_of_ble_eq_true rfl) e6 rfl dX3_renew_15 ?_
  obtain rfl := Option.some.inj hf
  exact ww_vret (pc := 18) C rfl dX3_renew_18
