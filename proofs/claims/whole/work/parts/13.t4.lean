/-! contracts (printed by wip/whole/gen/run.py) -/
theorem dX4_kindOf_0 : decode cX4_kindOf 0 = .ok (.iload_n 0, 1) := by decide +kernel
theorem dX4_kindOf_1 : decode cX4_kindOf 1 = .ok (.bipush 97, 2) := by decide +kernel
theorem dX4_kindOf_3 : decode cX4_kindOf 3 = .ok (.if_icmp .lt 11, 3) := by decide +kernel
theorem dX4_kindOf_6 : decode cX4_kindOf 6 = .ok (.iload_n 0, 1) := by decide +kernel
theorem dX4_kindOf_7 : decode cX4_kindOf 7 = .ok (.bipush 122, 2) := by decide +kernel
theorem dX4_kindOf_9 : decode cX4_kindOf 9 = .ok (.if_icmp .gt 5, 3) := by decide +kernel
theorem dX4_kindOf_12 : decode cX4_kindOf 12 = .ok (.iconst 1, 1) := by decide +kernel
theorem dX4_kindOf_13 : decode cX4_kindOf 13 = .ok (.ireturn, 1) := by decide +kernel
theorem dX4_kindOf_14 : decode cX4_kindOf 14 = .ok (.iload_n 0, 1) := by decide +kernel
theorem dX4_kindOf_15 : decode cX4_kindOf 15 = .ok (.bipush 48, 2) := by decide +kernel
theorem dX4_kindOf_17 : decode cX4_kindOf 17 = .ok (.if_icmp .lt 11, 3) := by decide +kernel
theorem dX4_kindOf_20 : decode cX4_kindOf 20 = .ok (.iload_n 0, 1) := by decide +kernel
theorem dX4_kindOf_21 : decode cX4_kindOf 21 = .ok (.bipush 57, 2) := by decide +kernel
theorem dX4_kindOf_23 : decode cX4_kindOf 23 = .ok (.if_icmp .gt 5, 3) := by decide +kernel
theorem dX4_kindOf_26 : decode cX4_kindOf 26 = .ok (.iconst 2, 1) := by decide +kernel
theorem dX4_kindOf_27 : decode cX4_kindOf 27 = .ok (.ireturn, 1) := by decide +kernel
theorem dX4_kindOf_28 : decode cX4_kindOf 28 = .ok (.iload_n 0, 1) := by decide +kernel
theorem dX4_kindOf_29 : decode cX4_kindOf 29 = .ok (.bipush 59, 2) := by decide +kernel
theorem dX4_kindOf_31 : decode cX4_kindOf 31 = .ok (.if_icmp .ne 7, 3) := by decide +kernel
theorem dX4_kindOf_34 : decode cX4_kindOf 34 = .ok (.iconst 3, 1) := by decide +kernel
theorem dX4_kindOf_35 : decode cX4_kindOf 35 = .ok (.goto 4, 3) := by decide +kernel
theorem dX4_kindOf_38 : decode cX4_kindOf 38 = .ok (.iconst 4, 1) := by decide +kernel
theorem dX4_kindOf_39 : decode cX4_kindOf 39 = .ok (.ireturn, 1) := by decide +kernel
abbrev rm_X4_kindOf : Room := { frames := 0, cells := 0, slots := 0, locals := 0 }
theorem t_b_X4_kindOf_28 {G : oa_G} {O : oa_O} {A : Nat → Prop}  {res : Int32} (C : oa_C G cX4_kindOf 1 RX4 (some .int) rm_X4_kindOf O A) (x0 : Int32)      (hf : b_X4_kindOf_28 x0 = some res) : ww G 1 O A (oa_Q G O A (0, 0) (some (.int res)) (fun W1 => W1 = [])) (0, 0) 28 [(0, .int x0)] [] ([]) := by
  delta b_X4_kindOf_28 at hf
  refine ww_iload_n (pc := 28) (i := 0) C 0 dX4_kindOf_28 rfl rfl ?_
  refine ww_bipush (pc := 29) C dX4_kindOf_29 kb_59 ?_
  refine ww_icmp_ne (pc := 31) (tgt := 38) C dX4_kindOf_31 (by decide) (fun c5 => ?_) (fun c5 => ?_)
  · have hf := oa_ifn c5 hf
    refine ww_iconst (pc := 38) C dX4_kindOf_38 kc_4 ?_
    obtain rfl := Option.some.inj hf
    exact ww_iret (pc := 39) C rfl dX4_kindOf_39
  · have hf := oa_ifp c5 hf
    refine ww_iconst (pc := 34) C dX4_kindOf_34 kc_3 ?_
    refine ww_goto (pc := 35) (tgt := 39) C dX4_kindOf_35 (by decide) ?_
    obtain rfl := Option.some.inj hf
    exact ww_iret (pc := 39) C rfl dX4_kindOf_39
theorem t_b_X4_kindOf_14 {G : oa_G} {O : oa_O} {A : Nat → Prop}  {res : Int32} (C : oa_C G cX4_kindOf 1 RX4 (some .int) rm_X4_kindOf O A) (x0 : Int32)      (hf : b_X4_kindOf_14 x0 = some res) : ww G 1 O A (oa_Q G O A (0, 0) (some (.int res)) (fun W1 => W1 = [])) (0, 0) 14 [(0, .int x0)] [] ([]) := by
  delta b_X4_kindOf_14 at hf
  refine ww_iload_n (pc := 14) (i := 0) C 0 dX4_kindOf_14 rfl rfl ?_
  refine ww_bipush (pc := 15) C dX4_kindOf_15 kb_48 ?_
  refine ww_icmp_lt (pc := 17) (tgt := 28) C dX4_kindOf_17 (by decide) (fun c3 => ?_) (fun c3 => ?_)
  · have hf := oa_ifp c3 hf
    exact t_b_X4_kindOf_28 C x0    hf
  · have hf := oa_ifn c3 hf
    refine ww_iload_n (pc := 20) (i := 0) C 0 dX4_kindOf_20 rfl rfl ?_
    refine ww_bipush (pc := 21) C dX4_kindOf_21 kb_57 ?_
    refine ww_icmp_gt (pc := 23) (tgt := 28) C dX4_kindOf_23 (by decide) (fun c4 => ?_) (fun c4 => ?_)
    · have hf := oa_ifp c4 hf
      exact t_b_X4_kindOf_28 C x0    hf
    · have hf := oa_ifn c4 hf
      refine ww_iconst (pc := 26) C dX4_kindOf_26 kc_2 ?_
      obtain rfl := Option.some.inj hf
      exact ww_iret (pc := 27) C rfl dX4_kindOf_27
theorem m_X4_kindOf (l : Launch) (O : oa_O)   (x0 : Int32) (res : Int32) (hf : f_X4_kindOf x0 = some res) : oa_M l yX4_kindOf cX4_kindOf 1 (some .int) rm_X4_kindOf O [.int x0] ([]) (some (.int res)) (fun W1 => W1 = []) := by
  refine oa_Mof (by decide) (Nat.le_of_ble_eq_true rfl) (fun G A hl C => ?_)
  subst hl
  have C : oa_C G cX4_kindOf 1 RX4 (some .int) rm_X4_kindOf O A := C
  have hf : f_X4_kindOf x0 = some res := hf
  delta f_X4_kindOf at hf
  show ww G 1 O A (oa_Q G O A (0, 0) (some (.int res)) (fun W1 => W1 = [])) (0, 0) 0 [(0, .int x0)] [] ([])
  refine ww_iload_n (pc := 0) (i := 0) C 0 dX4_kindOf_0 rfl rfl ?_
  refine ww_bipush (pc := 1) C dX4_kindOf_1 kb_97 ?_
  refine ww_icmp_lt (pc := 3) (tgt := 14) C dX4_kindOf_3 (by decide) (fun c1 => ?_) (fun c1 => ?_)
  · have hf := oa_ifp c1 hf
    exact t_b_X4_kindOf_14 C x0    hf
  · have hf := oa_ifn c1 hf
    refine ww_iload_n (pc := 6) (i := 0) C 0 dX4_kindOf_6 rfl rfl ?_
    refine ww_bipush (pc := 7) C dX4_kindOf_7 kb_122 ?_
    refine ww_icmp_gt (pc := 9) (tgt := 14) C dX4_kindOf_9 (by decide) (fun c2 => ?_) (fun c2 => ?_)
    · have hf := oa_ifp c2 hf
      exact t_b_X4_kindOf_14 C x0    hf
    · have hf := oa_ifn c2 hf
      refine ww_iconst (pc := 12) C dX4_kindOf_12 kc_1 ?_
      obtain rfl := Option.some.inj hf
      exact ww_iret (pc := 13) C rfl dX4_kindOf_13
theorem dX4_fail_0 : decode cX4_fail 0 = .ok (.aload_n 0, 1) := by decide +kernel
theorem dX4_fail_1 : decode cX4_fail 1 = .ok (.iload_n 1, 1) := by decide +kernel
theorem dX4_fail_2 : decode cX4_fail 2 = .ok (.putfield 33, 3) := by decide +kernel
theorem dX4_fail_5 : decode cX4_fail 5 = .ok (.aload_n 0, 1) := by decide +kernel
theorem dX4_fail_6 : decode cX4_fail 6 = .ok (.iload_n 2, 1) := by decide +kernel
theorem dX4_fail_7 : decode cX4_fail 7 = .ok (.putfield 69, 3) := by decide +kernel
theorem dX4_fail_10 : decode cX4_fail 10 = .ok (.iconst 0, 1) := by decide +kernel
theorem dX4_fail_11 : decode cX4_fail 11 = .ok (.ireturn, 1) := by decide +kernel
abbrev rm_X4_fail : Room := { frames := 0, cells := 0, slots := 0, locals := 0 }
theorem m_X4_fail (l : Launch) (O : oa_O) (t : Nat → Nat) (h : Nat → Nat) (T : oa_I2) (V : oa_I2) (x1 : Int32) (x2 : Int32) (res : Int32 × oa_I2) (hf : f_X4_fail T V x1 x2 = some res) : oa_M l yX4_fail cX4_fail 3 (some .boolean) rm_X4_fail O [.ref (t 0), .int x1, .int x2] (wd_T O t h T V) (some (.int res.1)) (fun W1 => W1 = wd_T O t h res.2 V) := by
  refine oa_Mof (by decide) (Nat.le_of_ble_eq_true rfl) (fun G A hl C => ?_)
  subst hl
  have C : oa_C G cX4_fail 3 RX4 (some .boolean) rm_X4_fail O A := C
  have hf : f_X4_fail T V x1 x2 = some res := hf
  delta f_X4_fail at hf
  show ww G 3 O A (oa_Q G O A (0, 0) (some (.int res.1)) (fun W1 => W1 = wd_T O t h res.2 V)) (0, 0) 0 [(0, .ref (t 0)), (1, .int x1), (2, .int x2)] [] (wd_T O t h T V)
  refine ww_aload_n (pc := 0) (i := 0) C 0 dX4_fail_0 rfl rfl ?_
  refine ww_iload_n (pc := 1) (i := 1) C 1 dX4_fail_1 rfl rfl ?_
  obtain ⟨T1, e2, hf⟩ := oa_letE hf
  refine ww_put (pc := 2) C fl_X4_33 (fun Z => wd_T O t h Z V) 0 rfl rfl rfl (Nat.le_of_ble_eq_true rfl) e2 rfl dX4_fail_2 ?_
  refine ww_aload_n (pc := 5) (i := 0) C 0 dX4_fail_5 rfl rfl ?_
  refine ww_iload_n (pc := 6) (i := 2) C 2 dX4_fail_6 rfl rfl ?_
  obtain ⟨T3, e4, hf⟩ := oa_letE hf
  refine ww_put (pc := 7) C fl_X4_69 (fun Z => wd_T O t h Z V) 0 rfl rfl rfl (Nat.le_of_ble_eq_true rfl) e4 rfl dX4_fail_7 ?_
  refine ww_iconst (pc := 10) C dX4_fail_10 kc_0 ?_
  obtain rfl := Option.some.inj hf
  exact ww_zret (pc := 11) C kz_0 rfl dX4_fail_11
theorem dX4_advance_0 : decode cX4_advance 0 = .ok (.aload_n 0, 1) := by decide +kernel
theorem dX4_advance_1 : decode cX4_advance 1 = .ok (.getfield 39, 3) := by decide +kernel
theorem dX4_advance_4 : decode cX4_advance 4 = .ok (.aload_n 0, 1) := by decide +kernel
theorem dX4_advance_5 : decode cX4_advance 5 = .ok (.getfield 22, 3) := by decide +kernel
theorem dX4_advance_8 : decode cX4_advance 8 = .ok (.if_icmp .ge 30, 3) := by decide +kernel
theorem dX4_advance_11 : decode cX4_advance 11 = .ok (.aload_n 0, 1) := by decide +kernel
theorem dX4_advance_12 : decode cX4_advance 12 = .ok (.getfield 9, 3) := by decide +kernel
theorem dX4_advance_15 : decode cX4_advance 15 = .ok (.aload_n 0, 1) := by decide +kernel
theorem dX4_advance_16 : decode cX4_advance 16 = .ok (.getfield 39, 3) := by decide +kernel
theorem dX4_advance_19 : decode cX4_advance 19 = .ok (.iaload, 1) := by decide +kernel
theorem dX4_advance_20 : decode cX4_advance 20 = .ok (.bipush 32, 2) := by decide +kernel
theorem dX4_advance_22 : decode cX4_advance 22 = .ok (.if_icmp .ne 16, 3) := by decide +kernel
theorem dX4_advance_25 : decode cX4_advance 25 = .ok (.aload_n 0, 1) := by decide +kernel
theorem dX4_advance_26 : decode cX4_advance 26 = .ok (.dup, 1) := by decide +kernel
theorem dX4_advance_27 : decode cX4_advance 27 = .ok (.getfield 39, 3) := by decide +kernel
theorem dX4_advance_30 : decode cX4_advance 30 = .ok (.iconst 1, 1) := by decide +kernel
theorem dX4_advance_31 : decode cX4_advance 31 = .ok (.iadd, 1) := by decide +kernel
theorem dX4_advance_32 : decode cX4_advance 32 = .ok (.putfield 39, 3) := by decide +kernel
theorem dX4_advance_35 : decode cX4_advance 35 = .ok (.goto (-35), 3) := by decide +kernel
theorem dX4_advance_38 : decode cX4_advance 38 = .ok (.aload_n 0, 1) := by decide +kernel
theorem dX4_advance_39 : decode cX4_advance 39 = .ok (.aload_n 0, 1) := by decide +kernel
theorem dX4_advance_40 : decode cX4_advance 40 = .ok (.getfield 39, 3) := by decide +kernel
theorem dX4_advance_43 : decode cX4_advance 43 = .ok (.putfield 72, 3) := by decide +kernel
theorem dX4_advance_46 : decode cX4_advance 46 = .ok (.aload_n 0, 1) := by decide +kernel
theorem dX4_advance_47 : decode cX4_advance 47 = .ok (.getfield 39, 3) := by decide +kernel
theorem dX4_advance_50 : decode cX4_advance 50 = .ok (.aload_n 0, 1) := by decide +kernel
theorem dX4_advance_51 : decode cX4_advance 51 = .ok (.getfield 22, 3) := by decide +kernel
theorem dX4_advance_54 : decode cX4_advance 54 = .ok (.if_icmp .lt 10, 3) := by decide +kernel
theorem dX4_advance_57 : decode cX4_advance 57 = .ok (.aload_n 0, 1) := by decide +kernel
theorem dX4_advance_58 : decode cX4_advance 58 = .ok (.iconst 0, 1) := by decide +kernel
theorem dX4_advance_59 : decode cX4_advance 59 = .ok (.putfield 49, 3) := by decide +kernel
theorem dX4_advance_62 : decode cX4_advance 62 = .ok (.iconst 1, 1) := by decide +kernel
theorem dX4_advance_63 : decode cX4_advance 63 = .ok (.ireturn, 1) := by decide +kernel
theorem dX4_advance_64 : decode cX4_advance 64 = .ok (.aload_n 0, 1) := by decide +kernel
theorem dX4_advance_65 : decode cX4_advance 65 = .ok (.aload_n 0, 1) := by decide +kernel
theorem dX4_advance_66 : decode cX4_advance 66 = .ok (.getfield 9, 3) := by decide +kernel
theorem dX4_advance_69 : decode cX4_advance 69 = .ok (.aload_n 0, 1) := by decide +kernel
theorem dX4_advance_70 : decode cX4_advance 70 = .ok (.getfield 39, 3) := by decide +kernel
theorem dX4_advance_73 : decode cX4_advance 73 = .ok (.iaload, 1) := by decide +kernel
theorem dX4_advance_74 : decode cX4_advance 74 = .ok (.invokestatic 75, 3) := by decide +kernel
theorem dX4_advance_77 : decode cX4_advance 77 = .ok (.putfield 49, 3) := by decide +kernel
theorem dX4_advance_80 : decode cX4_advance 80 = .ok (.aload_n 0, 1) := by decide +kernel
theorem dX4_advance_81 : decode cX4_advance 81 = .ok (.getfield 49, 3) := by decide +kernel
theorem dX4_advance_84 : decode cX4_advance 84 = .ok (.iconst 4, 1) := by decide +kernel
theorem dX4_advance_85 : decode cX4_advance 85 = .ok (.if_icmp .ne 13, 3) := by decide +kernel
theorem dX4_advance_88 : decode cX4_advance 88 = .ok (.aload_n 0, 1) := by decide +kernel
theorem dX4_advance_89 : decode cX4_advance 89 = .ok (.iconst 1, 1) := by decide +kernel
theorem dX4_advance_90 : decode cX4_advance 90 = .ok (.aload_n 0, 1) := by decide +kernel
theorem dX4_advance_91 : decode cX4_advance 91 = .ok (.getfield 72, 3) := by decide +kernel
theorem dX4_advance_94 : decode cX4_advance 94 = .ok (.invokevirtual 79, 3) := by decide +kernel
theorem dX4_advance_97 : decode cX4_advance 97 = .ok (.ireturn, 1) := by decide +kernel
theorem dX4_advance_98 : decode cX4_advance 98 = .ok (.aload_n 0, 1) := by decide +kernel
theorem dX4_advance_99 : decode cX4_advance 99 = .ok (.dup, 1) := by decide +kernel
theorem dX4_advance_100 : decode cX4_advance 100 = .ok (.getfield 39, 3) := by decide +kernel
theorem dX4_advance_103 : decode cX4_advance 103 = .ok (.iconst 1, 1) := by decide +kernel
theorem dX4_advance_104 : decode cX4_advance 104 = .ok (.iadd, 1) := by decide +kernel
theorem dX4_advance_105 : decode cX4_advance 105 = .ok (.putfield 39, 3) := by decide +kernel
theorem dX4_advance_108 : decode cX4_advance 108 = .ok (.aload_n 0, 1) := by decide +kernel
theorem dX4_advance_109 : decode cX4_advance 109 = .ok (.getfield 49, 3) := by decide +kernel
theorem dX4_advance_112 : decode cX4_advance 112 = .ok (.iconst 3, 1) := by decide +kernel
theorem dX4_advance_113 : decode cX4_advance 113 = .ok (.if_icmp .eq 46, 3) := by decide +kernel
theorem dX4_advance_116 : decode cX4_advance 116 = .ok (.aload_n 0, 1) := by decide +kernel
theorem dX4_advance_117 : decode cX4_advance 117 = .ok (.getfield 39, 3) := by decide +kernel
theorem dX4_advance_120 : decode cX4_advance 120 = .ok (.aload_n 0, 1) := by decide +kernel
theorem dX4_advance_121 : decode cX4_advance 121 = .ok (.getfield 22, 3) := by decide +kernel
theorem dX4_advance_124 : decode cX4_advance 124 = .ok (.if_icmp .ge 35, 3) := by decide +kernel
theorem dX4_advance_127 : decode cX4_advance 127 = .ok (.aload_n 0, 1) := by decide +kernel
theorem dX4_advance_128 : decode cX4_advance 128 = .ok (.getfield 9, 3) := by decide +kernel
theorem dX4_advance_131 : decode cX4_advance 131 = .ok (.aload_n 0, 1) := by decide +kernel
theorem dX4_advance_132 : decode cX4_advance 132 = .ok (.getfield 39, 3) := by decide +kernel
theorem dX4_advance_135 : decode cX4_advance 135 = .ok (.iaload, 1) := by decide +kernel
theorem dX4_advance_136 : decode cX4_advance 136 = .ok (.invokestatic 75, 3) := by decide +kernel
theorem dX4_advance_139 : decode cX4_advance 139 = .ok (.aload_n 0, 1) := by decide +kernel
theorem dX4_advance_140 : decode cX4_advance 140 = .ok (.getfield 49, 3) := by decide +kernel
theorem dX4_advance_143 : decode cX4_advance 143 = .ok (.if_icmp .ne 16, 3) := by decide +kernel
theorem dX4_advance_146 : decode cX4_advance 146 = .ok (.aload_n 0, 1) := by decide +kernel
theorem dX4_advance_147 : decode cX4_advance 147 = .ok (.dup, 1) := by decide +kernel
theorem dX4_advance_148 : decode cX4_advance 148 = .ok (.getfield 39, 3) := by decide +kernel
theorem dX4_advance_151 : decode cX4_advance 151 = .ok (.iconst 1, 1) := by decide +kernel
theorem dX4_advance_152 : decode cX4_advance 152 = .ok (.iadd, 1) := by decide +kernel
theorem dX4_advance_153 : decode cX4_advance 153 = .ok (.putfield 39, 3) := by decide +kernel
theorem dX4_advance_156 : decode cX4_advance 156 = .ok (.goto (-48), 3) := by decide +kernel
theorem dX4_advance_159 : decode cX4_advance 159 = .ok (.aload_n 0, 1) := by decide +kernel
theorem dX4_advance_160 : decode cX4_advance 160 = .ok (.getfield 49, 3) := by decide +kernel
theorem dX4_advance_163 : decode cX4_advance 163 = .ok (.iconst 2, 1) := by decide +kernel
theorem dX4_advance_164 : decode cX4_advance 164 = .ok (.if_icmp .ne 26, 3) := by decide +kernel
theorem dX4_advance_167 : decode cX4_advance 167 = .ok (.aload_n 0, 1) := by decide +kernel
theorem dX4_advance_168 : decode cX4_advance 168 = .ok (.getfield 39, 3) := by decide +kernel
theorem dX4_advance_171 : decode cX4_advance 171 = .ok (.aload_n 0, 1) := by decide +kernel
theorem dX4_advance_172 : decode cX4_advance 172 = .ok (.getfield 72, 3) := by decide +kernel
theorem dX4_advance_175 : decode cX4_advance 175 = .ok (.isub, 1) := by decide +kernel
theorem dX4_advance_176 : decode cX4_advance 176 = .ok (.iconst 3, 1) := by decide +kernel
theorem dX4_advance_177 : decode cX4_advance 177 = .ok (.if_icmp .le 13, 3) := by decide +kernel
theorem dX4_advance_180 : decode cX4_advance 180 = .ok (.aload_n 0, 1) := by decide +kernel
theorem dX4_advance_181 : decode cX4_advance 181 = .ok (.iconst 1, 1) := by decide +kernel
theorem dX4_advance_182 : decode cX4_advance 182 = .ok (.aload_n 0, 1) := by decide +kernel
theorem dX4_advance_183 : decode cX4_advance 183 = .ok (.getfield 72, 3) := by decide +kernel
theorem dX4_advance_186 : decode cX4_advance 186 = .ok (.invokevirtual 79, 3) := by decide +kernel
theorem dX4_advance_189 : decode cX4_advance 189 = .ok (.ireturn, 1) := by decide +kernel
theorem dX4_advance_190 : decode cX4_advance 190 = .ok (.iconst 1, 1) := by decide +kernel
theorem dX4_advance_191 : decode cX4_advance 191 = .ok (.ireturn, 1) := by decide +kernel
abbrev rm_X4_advance : Room := { frames := 1, cells := 0, slots := 0, locals := 22 }
theorem t_b_X4_advance_159 {G : oa_G} {O : oa_O} {A : Nat → Prop} {t : Nat → Nat} {h : Nat → Nat} {res : Int32 × oa_I2} (C : oa_C G cX4_advance 1 RX4 (some .boolean) rm_X4_advance O A) (V : oa_I2)  (T : oa_I2)    (hf : b_X4_advance_159 V T = some res) : ww G 1 O A (oa_Q G O A (0, 0) (some (.int res.1)) (fun W1 => W1 = wd_T O t h res.2 V)) (0, 0) 159 [(0, .ref (t 0))] [] (wd_T O t h T V) := by
  delta b_X4_advance_159 at hf
  refine ww_aload_n (pc := 159) (i := 0) C 0 dX4_advance_159 rfl rfl ?_
  refine ww_get (pc := 160) C fl_X4_49 0 rfl rfl dX4_advance_160 ?_
  refine ww_iconst (pc := 163) C dX4_advance_163 kc_2 ?_
  refine ww_icmp_ne (pc := 164) (tgt := 190) C dX4_advance_164 (by decide) (fun c38 => ?_) (fun c38 => ?_)
  · have hf := oa_ifn c38 hf
    refine ww_iconst (pc := 190) C dX4_advance_190 kc_1 ?_
    obtain rfl := Option.some.inj hf
    exact ww_zret (pc := 191) C kz_1 rfl dX4_advance_191
  · have hf := oa_ifp c38 hf
    refine ww_aload_n (pc := 167) (i := 0) C 0 dX4_advance_167 rfl rfl ?_
    refine ww_get (pc := 168) C fl_X4_39 0 rfl rfl dX4_advance_168 ?_
    refine ww_aload_n (pc := 171) (i := 0) C 0 dX4_advance_171 rfl rfl ?_
    refine ww_get (pc := 172) C fl_X4_72 0 rfl rfl dX4_advance_172 ?_
    refine ww_isub (pc := 175) C dX4_advance_175 ?_
    refine ww_iconst (pc := 176) C dX4_advance_176 kc_3 ?_
    refine ww_icmp_le (pc := 177) (tgt := 190) C dX4_advance_177 (by decide) (fun c39 => ?_) (fun c39 => ?_)
    · have hf := oa_ifp c39 hf
      refine ww_iconst (pc := 190) C dX4_advance_190 kc_1 ?_
      obtain rfl := Option.some.inj hf
      exact ww_zret (pc := 191) C kz_1 rfl dX4_advance_191
    · have hf := oa_ifn c39 hf
      refine ww_aload_n (pc := 180) (i := 0) C 0 dX4_advance_180 rfl rfl ?_
      refine ww_iconst (pc := 181) C dX4_advance_181 kc_1 ?_
      refine ww_aload_n (pc := 182) (i := 0) C 0 dX4_advance_182 rfl rfl ?_
      refine ww_get (pc := 183) C fl_X4_72 0 rfl rfl dX4_advance_183 ?_
      obtain ⟨y40, T41, e42, hf⟩ := oa_bind2 hf
      refine ww_callV (pc := 186) (As := [.int 1, .int (T 1 6)]) (rest := []) (wd := wd_T O t h T41 V) (ws' := wd_T O t h T41 V) (rv := (some (.int y40))) C hY_X4_fail hV_X4_fail lk_X4_79 (m_X4_fail _ O t h T V 1 (T 1 6) _ e42) [0, 1, 2, 3, 4, 5, 6, 7] 0 rfl rfl rfl rfl rfl rfl (fun _ h => h) ⟨rfl, rfl⟩ ⟨Nat.zero_le _, Nat.zero_le _⟩ ⟨Nat.le_of_ble_eq_true rfl, Nat.le_of_ble_eq_true rfl⟩ rfl (Nat.le_of_ble_eq_true rfl) rfl rfl dX4_advance_186 ?_
      obtain ⟨z44, e45, hf⟩ := oa_bind hf
      have e45 := oa_zc_some e45
      refine ww_topi C e45.1 ?_
      obtain rfl := Option.some.inj hf
      exact ww_zret (pc := 189) C e45.2 rfl dX4_advance_189
theorem t_b_X4_advance_108 {G : oa_G} {O : oa_O} {A : Nat → Prop} {t : Nat → Nat} {h : Nat → Nat} {res : Int32 × oa_I2} (C : oa_C G cX4_advance 1 RX4 (some .boolean) rm_X4_advance O A) (V : oa_I2)    (k108 : oa_I2 → Option (Int32 × oa_I2))  (hk108 : ∀ (b_T : oa_I2), k108 b_T = some res → ww G 1 O A (oa_Q G O A (0, 0) (some (.int res.1)) (fun W1 => W1 = wd_T O t h res.2 V)) (0, 0) 108 [(0, .ref (t 0))] [] (wd_T O t h b_T V)) (T : oa_I2) (hf : b_X4_advance_108 V k108 T = some res) : ww G 1 O A (oa_Q G O A (0, 0) (some (.int res.1)) (fun W1 => W1 = wd_T O t h res.2 V)) (0, 0) 108 [(0, .ref (t 0))] [] (wd_T O t h T V) := by
  delta b_X4_advance_108 at hf
  refine ww_aload_n (pc := 108) (i := 0) C 0 dX4_advance_108 rfl rfl ?_
  refine ww_get (pc := 109) C fl_X4_49 0 rfl rfl dX4_advance_109 ?_
  refine ww_iconst (pc := 112) C dX4_advance_112 kc_3 ?_
  refine ww_icmp_eq (pc := 113) (tgt := 159) C dX4_advance_113 (by decide) (fun c28 => ?_) (fun c28 => ?_)
  · have hf := oa_ifp c28 hf
    exact t_b_X4_advance_159 C V T   hf
  · have hf := oa_ifn c28 hf
    refine ww_aload_n (pc := 116) (i := 0) C 0 dX4_advance_116 rfl rfl ?_
    refine ww_get (pc := 117) C fl_X4_39 0 rfl rfl dX4_advance_117 ?_
    refine ww_aload_n (pc := 120) (i := 0) C 0 dX4_advance_120 rfl rfl ?_
    refine ww_get (pc := 121) C fl_X4_22 0 rfl rfl dX4_advance_121 ?_
    refine ww_icmp_ge (pc := 124) (tgt := 159) C dX4_advance_124 (by decide) (fun c29 => ?_) (fun c29 => ?_)
    · have hf := oa_ifp c29 hf
      exact t_b_X4_advance_159 C V T   hf
    · have hf := oa_ifn c29 hf
      refine ww_aload_n (pc := 127) (i := 0) C 0 dX4_advance_127 rfl rfl ?_
      refine ww_get (pc := 128) C fl_X4_9 0 rfl rfl dX4_advance_128 ?_
      refine ww_aload_n (pc := 131) (i := 0) C 0 dX4_advance_131 rfl rfl ?_
      refine ww_get (pc := 132) C fl_X4_39 0 rfl rfl dX4_advance_132 ?_
      obtain ⟨y30, e31, hf⟩ := oa_bind hf
      refine ww_iald (pc := 135) C 1 rfl e31 dX4_advance_135 ?_
      obtain ⟨y32, e33, hf⟩ := oa_bind hf
      refine ww_callS (pc := 136) (As := [.int y30]) (rest := []) (wd := []) (ws' := wd_T O t h T V) (rv := (some (.int y32))) C hY_X4_kindOf hS_X4_kindOf lk_X4_75 (m_X4_kindOf _ O  y30 _ e33) [] rfl rfl rfl (oa_putS _ _ _ rfl) (fun _ h => h) ⟨rfl, rfl⟩ ⟨Nat.zero_le _, Nat.zero_le _⟩ ⟨Nat.le_of_ble_eq_true rfl, Nat.le_of_ble_eq_true rfl⟩ rfl (Nat.le_of_ble_eq_true rfl) rfl rfl dX4_advance_136 ?_
      refine ww_aload_n (pc := 139) (i := 0) C 0 dX4_advance_139 rfl rfl ?_
      refine ww_get (pc := 140) C fl_X4_49 0 rfl rfl dX4_advance_140 ?_
      refine ww_icmp_ne (pc := 143) (tgt := 159) C dX4_advance_143 (by decide) (fun c35 => ?_) (fun c35 => ?_)
      · have hf := oa_ifn c35 hf
        exact t_b_X4_advance_159 C V T   hf
      · have hf := oa_ifp c35 hf
        refine ww_aload_n (pc := 146) (i := 0) C 0 dX4_advance_146 rfl rfl ?_
        refine ww_dup (pc := 147) C dX4_advance_147 rfl ?_
        refine ww_get (pc := 148) C fl_X4_39 0 rfl rfl dX4_advance_148 ?_
        refine ww_iconst (pc := 151) C dX4_advance_151 kc_1 ?_
        refine ww_iadd (pc := 152) C dX4_advance_152 ?_
        obtain ⟨T36, e37, hf⟩ := oa_letE hf
        refine ww_put (pc := 153) C fl_X4_39 (fun Z => wd_T O t h Z V) 0 rfl rfl rfl (Nat.le_of_ble_eq_true rfl) e37 rfl dX4_advance_153 ?_
        refine ww_goto (pc := 156) (tgt := 108) C dX4_advance_156 (by decide) ?_
        exact hk108 T36 hf
theorem t_l_X4_advance_108 {G : oa_G} {O : oa_O} {A : Nat → Prop} {t : Nat → Nat} {h : Nat → Nat} {res : Int32 × oa_I2} (C : oa_C G cX4_advance 1 RX4 (some .boolean) rm_X4_advance O A) (V : oa_I2)    : ∀ (n : Nat) (T : oa_I2), l_X4_advance_108 V n T = some res → ww G 1 O A (oa_Q G O A (0, 0) (some (.int res.1)) (fun W1 => W1 = wd_T O t h res.2 V)) (0, 0) 108 [(0, .ref (t 0))] [] (wd_T O t h T V) := by
  intro n
  induction n with
  | zero => intro T hf; exact absurd (show (none : Option (Int32 × oa_I2)) = some res from hf) (fun h => nomatch h)
  | succ n ih =>
    intro T hf
    exact t_b_X4_advance_108 C V  (fun T => l_X4_advance_108 V n T)  (fun T h => ih T h) T hf
theorem t_b_X4_advance_38 {G : oa_G} {O : oa_O} {A : Nat → Prop} {t : Nat → Nat} {h : Nat → Nat} {res : Int32 × oa_I2} (C : oa_C G cX4_advance 1 RX4 (some .boolean) rm_X4_advance O A) (V : oa_I2)  (T : oa_I2)    (hf : b_X4_advance_38 V T = some res) : ww G 1 O A (oa_Q G O A (0, 0) (some (.int res.1)) (fun W1 => W1 = wd_T O t h res.2 V)) (0, 0) 38 [(0, .ref (t 0))] [] (wd_T O t h T V) := by
  delta b_X4_advance_38 at hf
  refine ww_aload_n (pc := 38) (i := 0) C 0 dX4_advance_38 rfl rfl ?_
  refine ww_aload_n (pc := 39) (i := 0) C 0 dX4_advance_39 rfl rfl ?_
  refine ww_get (pc := 40) C fl_X4_39 0 rfl rfl dX4_advance_40 ?_
  obtain ⟨T7, e8, hf⟩ := oa_letE hf
  refine ww_put (pc := 43) C fl_X4_72 (fun Z => wd_T O t h Z V) 0 rfl rfl rfl (Nat.le_of_ble_eq_true rfl) e8 rfl dX4_advance_43 ?_
  refine ww_aload_n (pc := 46) (i := 0) C 0 dX4_advance_46 rfl rfl ?_
  refine ww_get (pc := 47) C fl_X4_39 0 rfl rfl dX4_advance_47 ?_
  refine ww_aload_n (pc := 50) (i := 0) C 0 dX4_advance_50 rfl rfl ?_
  refine ww_get (pc := 51) C fl_X4_22 0 rfl rfl dX4_advance_51 ?_
  refine ww_icmp_lt (pc := 54) (tgt := 64) C dX4_advance_54 (by decide) (fun c9 => ?_) (fun c9 => ?_)
  · have hf := oa_ifp c9 hf
    refine ww_aload_n (pc := 64) (i := 0) C 0 dX4_advance_64 rfl rfl ?_
    refine ww_aload_n (pc := 65) (i := 0) C 0 dX4_advance_65 rfl rfl ?_
    refine ww_get (pc := 66) C fl_X4_9 0 rfl rfl dX4_advance_66 ?_
    refine ww_aload_n (pc := 69) (i := 0) C 0 dX4_advance_69 rfl rfl ?_
    refine ww_get (pc := 70) C fl_X4_39 0 rfl rfl dX4_advance_70 ?_
    obtain ⟨y10, e11, hf⟩ := oa_bind hf
    refine ww_iald (pc := 73) C 1 rfl e11 dX4_advance_73 ?_
    obtain ⟨y12, e13, hf⟩ := oa_bind hf
    refine ww_callS (pc := 74) (As := [.int y10]) (rest := [.ref (t 0)]) (wd := []) (ws' := wd_T O t h T7 V) (rv := (some (.int y12))) C hY_X4_kindOf hS_X4_kindOf lk_X4_75 (m_X4_kindOf _ O  y10 _ e13) [] rfl rfl rfl (oa_putS _ _ _ rfl) (fun _ h => h) ⟨rfl, rfl⟩ ⟨Nat.zero_le _, Nat.zero_le _⟩ ⟨Nat.le_of_ble_eq_true rfl, Nat.le_of_ble_eq_true rfl⟩ rfl (Nat.le_of_ble_eq_true rfl) rfl rfl dX4_advance_74 ?_
    obtain ⟨T15, e16, hf⟩ := oa_letE hf
    refine ww_put (pc := 77) C fl_X4_49 (fun Z => wd_T O t h Z V) 0 rfl rfl rfl (Nat.le_of_ble_eq_true rfl) e16 rfl dX4_advance_77 ?_
    refine ww_aload_n (pc := 80) (i := 0) C 0 dX4_advance_80 rfl rfl ?_
    refine ww_get (pc := 81) C fl_X4_49 0 rfl rfl dX4_advance_81 ?_
    refine ww_iconst (pc := 84) C dX4_advance_84 kc_4 ?_
    refine ww_icmp_ne (pc := 85) (tgt := 98) C dX4_advance_85 (by decide) (fun c17 => ?_) (fun c17 => ?_)
    · have hf := oa_ifn c17 hf
      refine ww_aload_n (pc := 98) (i := 0) C 0 dX4_advance_98 rfl rfl ?_
      refine ww_dup (pc := 99) C dX4_advance_99 rfl ?_
      refine ww_get (pc := 100) C fl_X4_39 0 rfl rfl dX4_advance_100 ?_
      refine ww_iconst (pc := 103) C dX4_advance_103 kc_1 ?_
      refine ww_iadd (pc := 104) C dX4_advance_104 ?_
      obtain ⟨T18, e19, hf⟩ := oa_letE hf
      refine ww_put (pc := 105) C fl_X4_39 (fun Z => wd_T O t h Z V) 0 rfl rfl rfl (Nat.le_of_ble_eq_true rfl) e19 rfl dX4_advance_105 ?_
      exact t_l_X4_advance_108 C V    oa_fu T18 hf
    · have hf := oa_ifp c17 hf
      refine ww_aload_n (pc := 88) (i := 0) C 0 dX4_advance_88 rfl rfl ?_
      refine ww_iconst (pc := 89) C dX4_advance_89 kc_1 ?_
      refine ww_aload_n (pc := 90) (i := 0) C 0 dX4_advance_90 rfl rfl ?_
      refine ww_get (pc := 91) C fl_X4_72 0 rfl rfl dX4_advance_91 ?_
      obtain ⟨y20, T21, e22, hf⟩ := oa_bind2 hf
      refine ww_callV (pc := 94) (As := [.int 1, .int (T15 1 6)]) (rest := []) (wd := wd_T O t h T21 V) (ws' := wd_T O t h T21 V) (rv := (some (.int y20))) C hY_X4_fail hV_X4_fail lk_X4_79 (m_X4_fail _ O t h T15 V 1 (T15 1 6) _ e22) [0, 1, 2, 3, 4, 5, 6, 7] 0 rfl rfl rfl rfl rfl rfl (fun _ h => h) ⟨rfl, rfl⟩ ⟨Nat.zero_le _, Nat.zero_le _⟩ ⟨Nat.le_of_ble_eq_true rfl, Nat.le_of_ble_eq_true rfl⟩ rfl (Nat.le_of_ble_eq_true rfl) rfl rfl dX4_advance_94 ?_
      obtain ⟨z24, e25, hf⟩ := oa_bind hf
      have e25 := oa_zc_some e25
      refine ww_topi C e25.1 ?_
      obtain rfl := Option.some.inj hf
      exact ww_zret (pc := 97) C e25.2 rfl dX4_advance_97
  · have hf := oa_ifn c9 hf
    refine ww_aload_n (pc := 57) (i := 0) C 0 dX4_advance_57 rfl rfl ?_
    refine ww_iconst (pc := 58) C dX4_advance_58 kc_0 ?_
    obtain ⟨T26, e27, hf⟩ := oa_letE hf
    refine ww_put (pc := 59) C fl_X4_49 (fun Z => wd_T O t h Z V) 0 rfl rfl rfl (Nat.le_of_ble_eq_true rfl) e27 rfl dX4_advance_59 ?_
    refine ww_iconst (pc := 62) C dX4_advance_62 kc_1 ?_
    obtain rfl := Option.some.inj hf
    exact ww_zret (pc := 63) C kz_1 rfl dX4_advance_63
theorem t_b_X4_advance_0 {G : oa_G} {O : oa_O} {A : Nat → Prop} {t : Nat → Nat} {h : Nat → Nat} {res : Int32 × oa_I2} (C : oa_C G cX4_advance 1 RX4 (some .boolean) rm_X4_advance O A) (V : oa_I2)    (k0 : oa_I2 → Option (Int32 × oa_I2))  (hk0 : ∀ (b_T : oa_I2), k0 b_T = some res → ww G 1 O A (oa_Q G O A (0, 0) (some (.int res.1)) (fun W1 => W1 = wd_T O t h res.2 V)) (0, 0) 0 [(0, .ref (t 0))] [] (wd_T O t h b_T V)) (T : oa_I2) (hf : b_X4_advance_0 V k0 T = some res) : ww G 1 O A (oa_Q G O A (0, 0) (some (.int res.1)) (fun W1 => W1 = wd_T O t h res.2 V)) (0, 0) 0 [(0, .ref (t 0))] [] (wd_T O t h T V) := by
  delta b_X4_advance_0 at hf
  refine ww_aload_n (pc := 0) (i := 0) C 0 dX4_advance_0 rfl rfl ?_
  refine ww_get (pc := 1) C fl_X4_39 0 rfl rfl dX4_advance_1 ?_
  refine ww_aload_n (pc := 4) (i := 0) C 0 dX4_advance_4 rfl rfl ?_
  refine ww_get (pc := 5) C fl_X4_22 0 rfl rfl dX4_advance_5 ?_
  refine ww_icmp_ge (pc := 8) (tgt := 38) C dX4_advance_8 (by decide) (fun c1 => ?_) (fun c1 => ?_)
  · have hf := oa_ifp c1 hf
    exact t_b_X4_advance_38 C V T   hf
  · have hf := oa_ifn c1 hf
    refine ww_aload_n (pc := 11) (i := 0) C 0 dX4_advance_11 rfl rfl ?_
    refine ww_get (pc := 12) C fl_X4_9 0 rfl rfl dX4_advance_12 ?_
    refine ww_aload_n (pc := 15) (i := 0) C 0 dX4_advance_15 rfl rfl ?_
    refine ww_get (pc := 16) C fl_X4_39 0 rfl rfl dX4_advance_16 ?_
    obtain ⟨y2, e3, hf⟩ := oa_bind hf
    refine ww_iald (pc := 19) C 1 rfl e3 dX4_advance_19 ?_
    refine ww_bipush (pc := 20) C dX4_advance_20 kb_32 ?_
    refine ww_icmp_ne (pc := 22) (tgt := 38) C dX4_advance_22 (by decide) (fun c4 => ?_) (fun c4 => ?_)
    · have hf := oa_ifn c4 hf
      exact t_b_X4_advance_38 C V T   hf
    · have hf := oa_ifp c4 hf
      refine ww_aload_n (pc := 25) (i := 0) C 0 dX4_advance_25 rfl rfl ?_
      refine ww_dup (pc := 26) C dX4_advance_26 rfl ?_
      refine ww_get (pc := 27) C fl_X4_39 0 rfl rfl dX4_advance_27 ?_
      refine ww_iconst (pc := 30) C dX4_advance_30 kc_1 ?_
      refine ww_iadd (pc := 31) C dX4_advance_31 ?_
      obtain ⟨T5, e6, hf⟩ := oa_letE hf
      refine ww_put (pc := 32) C fl_X4_39 (fun Z => wd_T O t h Z V) 0 rfl rfl rfl (Nat.le_of_ble_eq_true rfl) e6 rfl dX4_advance_32 ?_
      refine ww_goto (pc := 35) (tgt := 0) C dX4_advance_35 (by decide) ?_
      exact hk0 T5 hf
theorem t_l_X4_advance_0 {G : oa_G} {O : oa_O} {A : Nat → Prop} {t : Nat → Nat} {h : Nat → Nat} {res : Int32 × oa_I2} (C : oa_C G cX4_advance 1 RX4 (some .boolean) rm_X4_advance O A) (V : oa_I2)    : ∀ (n : Nat) (T : oa_I2), l_X4_advance_0 V n T = some res → ww G 1 O A (oa_Q G O A (0, 0) (some (.int res.1)) (fun W1 => W1 = wd_T O t h res.2 V)) (0, 0) 0 [(0, .ref (t 0))] [] (wd_T O t h T V) := by
  intro n
  induction n with
  | zero => intro T hf; exact absurd (show (none : Option (Int32 × oa_I2)) = some res from hf) (fun h => nomatch h)
  | succ n ih =>
    intro T hf
    exact t_b_X4_advance_0 C V  (fun T => l_X4_advance_0 V n T)  (fun T h => ih T h) T hf
theorem m_X4_advance (l : Launch) (O : oa_O) (t : Nat → Nat) (h : Nat → Nat) (T : oa_I2) (V : oa_I2)  (res : Int32 × oa_I2) (hf : f_X4_advance T V = some res) : oa_M l yX4_advance cX4_advance 1 (some .boolean) rm_X4_advance O [.ref (t 0)] (wd_T O t h T V) (some (.int res.1)) (fun W1 => W1 = wd_T O t h res.2 V) := by
  refine oa_Mof (by decide) (Nat.le_of_ble_eq_true rfl) (fun G A hl C => ?_)
  subst hl
  have C : oa_C G cX4_advance 1 RX4 (some .boolean) rm_X4_advance O A := C
  have hf : f_X4_advance T V = some res := hf
  delta f_X4_advance at hf
  show ww G 1 O A (oa_Q G O A (0, 0) (some (.int res.1)) (fun W1 => W1 = wd_T O t h res.2 V)) (0, 0) 0 [(0, .ref (t 0))] [] (wd_T O t h T V)
  exact t_l_X4_advance_0 C V    oa_fu T hf
theorem dX4_append_0 : decode cX4_append 0 = .ok (.aload_n 0, 1) := by decide +kernel
theorem dX4_append_1 : decode cX4_append 1 = .ok (.getfield 22, 3) := by decide +kernel
theorem dX4_append_4 : decode cX4_append 4 = .ok (.bipush 8, 2) := by decide +kernel
theorem dX4_append_6 : decode cX4_append 6 = .ok (.iadd, 1) := by decide +kernel
theorem dX4_append_7 : decode cX4_append 7 = .ok (.sipush 320, 3) := by decide +kernel
theorem dX4_append_10 : decode cX4_append 10 = .ok (.if_icmp .le 6, 3) := by decide +kernel
theorem dX4_append_13 : decode cX4_append 13 = .ok (.bipush (-3), 2) := by decide +kernel
theorem dX4_append_15 : decode cX4_append 15 = .ok (.ireturn, 1) := by decide +kernel
theorem dX4_append_16 : decode cX4_append 16 = .ok (.iconst 0, 1) := by decide +kernel
theorem dX4_append_17 : decode cX4_append 17 = .ok (.istore_n 3, 1) := by decide +kernel
theorem dX4_append_18 : decode cX4_append 18 = .ok (.iload_n 3, 1) := by decide +kernel
theorem dX4_append_19 : decode cX4_append 19 = .ok (.bipush 8, 2) := by decide +kernel
theorem dX4_append_21 : decode cX4_append 21 = .ok (.if_icmp .ge 34, 3) := by decide +kernel
theorem dX4_append_24 : decode cX4_append 24 = .ok (.aload_n 0, 1) := by decide +kernel
theorem dX4_append_25 : decode cX4_append 25 = .ok (.getfield 9, 3) := by decide +kernel
theorem dX4_append_28 : decode cX4_append 28 = .ok (.aload_n 0, 1) := by decide +kernel
theorem dX4_append_29 : decode cX4_append 29 = .ok (.getfield 22, 3) := by decide +kernel
theorem dX4_append_32 : decode cX4_append 32 = .ok (.iload_n 3, 1) := by decide +kernel
theorem dX4_append_33 : decode cX4_append 33 = .ok (.iadd, 1) := by decide +kernel
theorem dX4_append_34 : decode cX4_append 34 = .ok (.lload_n 1, 1) := by decide +kernel
theorem dX4_append_35 : decode cX4_append 35 = .ok (.bipush 56, 2) := by decide +kernel
theorem dX4_append_37 : decode cX4_append 37 = .ok (.bipush 8, 2) := by decide +kernel
theorem dX4_append_39 : decode cX4_append 39 = .ok (.iload_n 3, 1) := by decide +kernel
theorem dX4_append_40 : decode cX4_append 40 = .ok (.imul, 1) := by decide +kernel
theorem dX4_append_41 : decode cX4_append 41 = .ok (.isub, 1) := by decide +kernel
theorem dX4_append_42 : decode cX4_append 42 = .ok (.lushr, 1) := by decide +kernel
theorem dX4_append_43 : decode cX4_append 43 = .ok (.l2i, 1) := by decide +kernel
theorem dX4_append_44 : decode cX4_append 44 = .ok (.sipush 255, 3) := by decide +kernel
theorem dX4_append_47 : decode cX4_append 47 = .ok (.iand, 1) := by decide +kernel
theorem dX4_append_48 : decode cX4_append 48 = .ok (.iastore, 1) := by decide +kernel
theorem dX4_append_49 : decode cX4_append 49 = .ok (.iinc 3 1, 3) := by decide +kernel
theorem dX4_append_52 : decode cX4_append 52 = .ok (.goto (-34), 3) := by decide +kernel
theorem dX4_append_55 : decode cX4_append 55 = .ok (.aload_n 0, 1) := by decide +kernel
theorem dX4_append_56 : decode cX4_append 56 = .ok (.dup, 1) := by decide +kernel
theorem dX4_append_57 : decode cX4_append 57 = .ok (.getfield 22, 3) := by decide +kernel
theorem dX4_append_60 : decode cX4_append 60 = .ok (.bipush 8, 2) := by decide +kernel
theorem dX4_append_62 : decode cX4_append 62 = .ok (.iadd, 1) := by decide +kernel
theorem dX4_append_63 : decode cX4_append 63 = .ok (.putfield 22, 3) := by decide +kernel
theorem dX4_append_66 : decode cX4_append 66 = .ok (.aload_n 0, 1) := by decide +kernel
theorem dX4_append_67 : decode cX4_append 67 = .ok (.getfield 22, 3) := by decide +kernel
theorem dX4_append_70 : decode cX4_append 70 = .ok (.ireturn, 1) := by decide +kernel
abbrev rm_X4_append : Room := { frames := 0, cells := 0, slots := 0, locals := 0 }
theorem t_b_X4_append_18 {G : oa_G} {O : oa_O} {A : Nat → Prop} {t : Nat → Nat} {h : Nat → Nat} {res : Int32 × oa_I2} (C : oa_C G cX4_append 4 RX4 (some .int) rm_X4_append O A) (V : oa_I2) (x1 : Int64)    (k18 : oa_I2 → Int32 → Option (Int32 × oa_I2))  (hk18 : ∀ (b_T : oa_I2) (b_x3 : Int32), k18 b_T b_x3 = some res → ww G 4 O A (oa_Q G O A (0, 0) (some (.int res.1)) (fun W1 => W1 = wd_T O t h res.2 V)) (0, 0) 18 [(0, .ref (t 0)), (1, .long x1), (3, .int b_x3)] [] (wd_T O t h b_T V)) (T : oa_I2) (x3 : Int32) (hf : b_X4_append_18 V x1 k18 T x3 = some res) : ww G 4 O A (oa_Q G O A (0, 0) (some (.int res.1)) (fun W1 => W1 = wd_T O t h res.2 V)) (0, 0) 18 [(0, .ref (t 0)), (1, .long x1), (3, .int x3)] [] (wd_T O t h T V) := by
  delta b_X4_append_18 at hf
  refine ww_iload_n (pc := 18) (i := 3) C 2 dX4_append_18 rfl rfl ?_
  refine ww_bipush (pc := 19) C dX4_append_19 kb_8 ?_
  refine ww_icmp_ge (pc := 21) (tgt := 55) C dX4_append_21 (by decide) (fun c2 => ?_) (fun c2 => ?_)
  · have hf := oa_ifp c2 hf
    refine ww_aload_n (pc := 55) (i := 0) C 0 dX4_append_55 rfl rfl ?_
    refine ww_dup (pc := 56) C dX4_append_56 rfl ?_
    refine ww_get (pc := 57) C fl_X4_22 0 rfl rfl dX4_append_57 ?_
    refine ww_bipush (pc := 60) C dX4_append_60 kb_8 ?_
    refine ww_iadd (pc := 62) C dX4_append_62 ?_
    obtain ⟨T3, e4, hf⟩ := oa_letE hf
    refine ww_put (pc := 63) C fl_X4_22 (fun Z => wd_T O t h Z V) 0 rfl rfl rfl (Nat.le_of_ble_eq_true rfl) e4 rfl dX4_append_63 ?_
    refine ww_aload_n (pc := 66) (i := 0) C 0 dX4_append_66 rfl rfl ?_
    refine ww_get (pc := 67) C fl_X4_22 0 rfl rfl dX4_append_67 ?_
    obtain rfl := Option.some.inj hf
    exact ww_iret (pc := 70) C rfl dX4_append_70
  · have hf := oa_ifn c2 hf
    refine ww_aload_n (pc := 24) (i := 0) C 0 dX4_append_24 rfl rfl ?_
    refine ww_get (pc := 25) C fl_X4_9 0 rfl rfl dX4_append_25 ?_
    refine ww_aload_n (pc := 28) (i := 0) C 0 dX4_append_28 rfl rfl ?_
    refine ww_get (pc := 29) C fl_X4_22 0 rfl rfl dX4_append_29 ?_
    refine ww_iload_n (pc := 32) (i := 3) C 2 dX4_append_32 rfl rfl ?_
    refine ww_iadd (pc := 33) C dX4_append_33 ?_
    refine ww_lload_n (pc := 34) (i := 1) C 1 dX4_append_34 rfl rfl ?_
    refine ww_bipush (pc := 35) C dX4_append_35 kb_56 ?_
    refine ww_bipush (pc := 37) C dX4_append_37 kb_8 ?_
    refine ww_iload_n (pc := 39) (i := 3) C 2 dX4_append_39 rfl rfl ?_
    refine ww_imul (pc := 40) C dX4_append_40 ?_
    refine ww_isub (pc := 41) C dX4_append_41 ?_
    refine ww_lushr (pc := 42) C dX4_append_42 ?_
    refine ww_l2i (pc := 43) C dX4_append_43 ?_
    refine ww_sipush (pc := 44) C dX4_append_44 ks_255 ?_
    refine ww_iand (pc := 47) C dX4_append_47 ?_
    obtain ⟨g5, e6, hf⟩ := oa_bind hf
    obtain ⟨T7, e8, hf⟩ := oa_letE hf
    refine ww_iast (pc := 48) C (fun Z => wd_T O t h Z V) 1 rfl e6 e8 rfl dX4_append_48 ?_
    refine ww_iinc (pc := 49) (v := (x3 + 1)) (L' := [(0, .ref (t 0)), (1, .long x1), (3, .int (x3 + 1))]) C 2 [1, 2, 0] dX4_append_49 rfl (ki_1 _) (Nat.le_of_ble_eq_true rfl) rfl ?_
    refine ww_goto (pc := 52) (tgt := 18) C dX4_append_52 (by decide) ?_
    exact hk18 T7 (x3 + 1) hf
theorem t_l_X4_append_18 {G : oa_G} {O : oa_O} {A : Nat → Prop} {t : Nat → Nat} {h : Nat → Nat} {res : Int32 × oa_I2} (C : oa_C G cX4_append 4 RX4 (some .int) rm_X4_append O A) (V : oa_I2) (x1 : Int64)    : ∀ (n : Nat) (T : oa_I2) (x3 : Int32), l_X4_append_18 V x1 n T x3 = some res → ww G 4 O A (oa_Q G O A (0, 0) (some (.int res.1)) (fun W1 => W1 = wd_T O t h res.2 V)) (0, 0) 18 [(0, .ref (t 0)), (1, .long x1), (3, .int x3)] [] (wd_T O t h T V) := by
  intro n
  induction n with
  | zero => intro T x3 hf; exact absurd (show (none : Option (Int32 × oa_I2)) = some res from hf) (fun h => nomatch h)
  | succ n ih =>
    intro T x3 hf
    exact t_b_X4_append_18 C V x1  (fun T x3 => l_X4_append_18 V x1 n T x3)  (fun T x3 h => ih T x3 h) T x3 hf
theorem m_X4_append (l : Launch) (O : oa_O) (t : Nat → Nat) (h : Nat → Nat) (T : oa_I2) (V : oa_I2) (x1 : Int64) (res : Int32 × oa_I2) (hf : f_X4_append T V x1 = some res) : oa_M l yX4_append cX4_append 4 (some .int) rm_X4_append O [.ref (t 0), .long x1] (wd_T O t h T V) (some (.int res.1)) (fun W1 => W1 = wd_T O t h res.2 V) := by
  refine oa_Mof (by decide) (Nat.le_of_ble_eq_true rfl) (fun G A hl C => ?_)
  subst hl
  have C : oa_C G cX4_append 4 RX4 (some .int) rm_X4_append O A := C
  have hf : f_X4_append T V x1 = some res := hf
  delta f_X4_append at hf
  show ww G 4 O A (oa_Q G O A (0, 0) (some (.int res.1)) (fun W1 => W1 = wd_T O t h res.2 V)) (0, 0) 0 [(0, .ref (t 0)), (1, .long x1)] [] (wd_T O t h T V)
  refine ww_aload_n (pc := 0) (i := 0) C 0 dX4_append_0 rfl rfl ?_
  refine ww_get (pc := 1) C fl_X4_22 0 rfl rfl dX4_append_1 ?_
  refine ww_bipush (pc := 4) C dX4_append_4 kb_8 ?_
  refine ww_iadd (pc := 6) C dX4_append_6 ?_
  refine ww_sipush (pc := 7) C dX4_append_7 ks_320 ?_
  refine ww_icmp_le (pc := 10) (tgt := 16) C dX4_append_10 (by decide) (fun c1 => ?_) (fun c1 => ?_)
  · have hf := oa_ifp c1 hf
    refine ww_iconst (pc := 16) C dX4_append_16 kc_0 ?_
    refine ww_istore_n (pc := 17) (L' := [(0, .ref (t 0)), (1, .long x1), (3, .int 0)]) C [1, 2, 0] dX4_append_17 rfl (Nat.le_of_ble_eq_true rfl) rfl ?_
    exact t_l_X4_append_18 C V x1    oa_fu T 0 hf
  · have hf := oa_ifn c1 hf
    refine ww_bipush (pc := 13) C dX4_append_13 kb_m3 ?_
    obtain rfl := Option.some.inj hf
    exact ww_iret (pc := 15) C rfl dX4_append_15
theorem dX4_checkAll_0 : decode cX4_checkAll 0 = .ok (.iconst 1, 1) := by decide +kernel
theorem dX4_checkAll_1 : decode cX4_checkAll 1 = .ok (.istore_n 1, 1) := by decide +kernel
theorem dX4_checkAll_2 : decode cX4_checkAll 2 = .ok (.iconst 1, 1) := by decide +kernel
theorem dX4_checkAll_3 : decode cX4_checkAll 3 = .ok (.istore_n 2, 1) := by decide +kernel
theorem dX4_checkAll_4 : decode cX4_checkAll 4 = .ok (.iconst 0, 1) := by decide +kernel
theorem dX4_checkAll_5 : decode cX4_checkAll 5 = .ok (.istore_n 3, 1) := by decide +kernel
theorem dX4_checkAll_6 : decode cX4_checkAll 6 = .ok (.iload_n 3, 1) := by decide +kernel
theorem dX4_checkAll_7 : decode cX4_checkAll 7 = .ok (.aload_n 0, 1) := by decide +kernel
theorem dX4_checkAll_8 : decode cX4_checkAll 8 = .ok (.getfield 18, 3) := by decide +kernel
theorem dX4_checkAll_11 : decode cX4_checkAll 11 = .ok (.getfield 125, 3) := by decide +kernel
theorem dX4_checkAll_14 : decode cX4_checkAll 14 = .ok (.if_icmp .ge 112, 3) := by decide +kernel
theorem dX4_checkAll_17 : decode cX4_checkAll 17 = .ok (.aload_n 0, 1) := by decide +kernel
theorem dX4_checkAll_18 : decode cX4_checkAll 18 = .ok (.getfield 18, 3) := by decide +kernel
theorem dX4_checkAll_21 : decode cX4_checkAll 21 = .ok (.invokevirtual 171, 3) := by decide +kernel
theorem dX4_checkAll_24 : decode cX4_checkAll 24 = .ok (.iconst 1, 1) := by decide +kernel
theorem dX4_checkAll_25 : decode cX4_checkAll 25 = .ok (.iload_n 3, 1) := by decide +kernel
theorem dX4_checkAll_26 : decode cX4_checkAll 26 = .ok (.ishl, 1) := by decide +kernel
theorem dX4_checkAll_27 : decode cX4_checkAll 27 = .ok (.iconst (-1), 1) := by decide +kernel
theorem dX4_checkAll_28 : decode cX4_checkAll 28 = .ok (.ixor, 1) := by decide +kernel
theorem dX4_checkAll_29 : decode cX4_checkAll 29 = .ok (.iand, 1) := by decide +kernel
theorem dX4_checkAll_30 : decode cX4_checkAll 30 = .ok (.istore 4, 2) := by decide +kernel
theorem dX4_checkAll_32 : decode cX4_checkAll 32 = .ok (.aload_n 0, 1) := by decide +kernel
theorem dX4_checkAll_33 : decode cX4_checkAll 33 = .ok (.getfield 18, 3) := by decide +kernel
theorem dX4_checkAll_36 : decode cX4_checkAll 36 = .ok (.bipush 7, 2) := by decide +kernel
theorem dX4_checkAll_38 : decode cX4_checkAll 38 = .ok (.iload_n 3, 1) := by decide +kernel
theorem dX4_checkAll_39 : decode cX4_checkAll 39 = .ok (.invokevirtual 174, 3) := by decide +kernel
theorem dX4_checkAll_42 : decode cX4_checkAll 42 = .ok (.istore 5, 2) := by decide +kernel
theorem dX4_checkAll_44 : decode cX4_checkAll 44 = .ok (.aload_n 0, 1) := by decide +kernel
theorem dX4_checkAll_45 : decode cX4_checkAll 45 = .ok (.getfield 18, 3) := by decide +kernel
theorem dX4_checkAll_48 : decode cX4_checkAll 48 = .ok (.getfield 178, 3) := by decide +kernel
theorem dX4_checkAll_51 : decode cX4_checkAll 51 = .ok (.iload_n 3, 1) := by decide +kernel
theorem dX4_checkAll_52 : decode cX4_checkAll 52 = .ok (.iaload, 1) := by decide +kernel
theorem dX4_checkAll_53 : decode cX4_checkAll 53 = .ok (.bipush (-65), 2) := by decide +kernel
theorem dX4_checkAll_55 : decode cX4_checkAll 55 = .ok (.iand, 1) := by decide +kernel
theorem dX4_checkAll_56 : decode cX4_checkAll 56 = .ok (.iload 5, 2) := by decide +kernel
theorem dX4_checkAll_58 : decode cX4_checkAll 58 = .ok (.bipush (-4), 2) := by decide +kernel
theorem dX4_checkAll_60 : decode cX4_checkAll 60 = .ok (.if_icmp .ne 7, 3) := by decide +kernel
theorem dX4_checkAll_63 : decode cX4_checkAll 63 = .ok (.iconst 0, 1) := by decide +kernel
theorem dX4_checkAll_64 : decode cX4_checkAll 64 = .ok (.goto 7, 3) := by decide +kernel
theorem dX4_checkAll_67 : decode cX4_checkAll 67 = .ok (.iconst 1, 1) := by decide +kernel
theorem dX4_checkAll_68 : decode cX4_checkAll 68 = .ok (.iload 5, 2) := by decide +kernel
theorem dX4_checkAll_70 : decode cX4_checkAll 70 = .ok (.ishl, 1) := by decide +kernel
theorem dX4_checkAll_71 : decode cX4_checkAll 71 = .ok (.ior, 1) := by decide +kernel
theorem dX4_checkAll_72 : decode cX4_checkAll 72 = .ok (.istore 6, 2) := by decide +kernel
theorem dX4_checkAll_74 : decode cX4_checkAll 74 = .ok (.iload_n 1, 1) := by decide +kernel
theorem dX4_checkAll_75 : decode cX4_checkAll 75 = .ok (.iload 6, 2) := by decide +kernel
theorem dX4_checkAll_77 : decode cX4_checkAll 77 = .ok (.iload 4, 2) := by decide +kernel
theorem dX4_checkAll_79 : decode cX4_checkAll 79 = .ok (.iconst (-1), 1) := by decide +kernel
theorem dX4_checkAll_80 : decode cX4_checkAll 80 = .ok (.ixor, 1) := by decide +kernel
theorem dX4_checkAll_81 : decode cX4_checkAll 81 = .ok (.iand, 1) := by decide +kernel
theorem dX4_checkAll_82 : decode cX4_checkAll 82 = .ok (.ifCond .ne 7, 3) := by decide +kernel
theorem dX4_checkAll_85 : decode cX4_checkAll 85 = .ok (.iconst 1, 1) := by decide +kernel
theorem dX4_checkAll_86 : decode cX4_checkAll 86 = .ok (.goto 4, 3) := by decide +kernel
theorem dX4_checkAll_89 : decode cX4_checkAll 89 = .ok (.iconst 0, 1) := by decide +kernel
theorem dX4_checkAll_90 : decode cX4_checkAll 90 = .ok (.iand, 1) := by decide +kernel
theorem dX4_checkAll_91 : decode cX4_checkAll 91 = .ok (.istore_n 1, 1) := by decide +kernel
theorem dX4_checkAll_92 : decode cX4_checkAll 92 = .ok (.iload_n 2, 1) := by decide +kernel
theorem dX4_checkAll_93 : decode cX4_checkAll 93 = .ok (.aload_n 0, 1) := by decide +kernel
theorem dX4_checkAll_94 : decode cX4_checkAll 94 = .ok (.getfield 18, 3) := by decide +kernel
theorem dX4_checkAll_97 : decode cX4_checkAll 97 = .ok (.iload_n 3, 1) := by decide +kernel
theorem dX4_checkAll_98 : decode cX4_checkAll 98 = .ok (.invokevirtual 181, 3) := by decide +kernel
theorem dX4_checkAll_101 : decode cX4_checkAll 101 = .ok (.aload_n 0, 1) := by decide +kernel
theorem dX4_checkAll_102 : decode cX4_checkAll 102 = .ok (.getfield 18, 3) := by decide +kernel
theorem dX4_checkAll_105 : decode cX4_checkAll 105 = .ok (.getfield 119, 3) := by decide +kernel
theorem dX4_checkAll_108 : decode cX4_checkAll 108 = .ok (.iconst 0, 1) := by decide +kernel
theorem dX4_checkAll_109 : decode cX4_checkAll 109 = .ok (.iaload, 1) := by decide +kernel
theorem dX4_checkAll_110 : decode cX4_checkAll 110 = .ok (.if_icmp .gt 7, 3) := by decide +kernel
theorem dX4_checkAll_113 : decode cX4_checkAll 113 = .ok (.iconst 1, 1) := by decide +kernel
theorem dX4_checkAll_114 : decode cX4_checkAll 114 = .ok (.goto 4, 3) := by decide +kernel
theorem dX4_checkAll_117 : decode cX4_checkAll 117 = .ok (.iconst 0, 1) := by decide +kernel
theorem dX4_checkAll_118 : decode cX4_checkAll 118 = .ok (.iand, 1) := by decide +kernel
theorem dX4_checkAll_119 : decode cX4_checkAll 119 = .ok (.istore_n 2, 1) := by decide +kernel
theorem dX4_checkAll_120 : decode cX4_checkAll 120 = .ok (.iinc 3 1, 3) := by decide +kernel
theorem dX4_checkAll_123 : decode cX4_checkAll 123 = .ok (.goto (-117), 3) := by decide +kernel
theorem dX4_checkAll_126 : decode cX4_checkAll 126 = .ok (.iload_n 1, 1) := by decide +kernel
theorem dX4_checkAll_127 : decode cX4_checkAll 127 = .ok (.ifCond .ne 17, 3) := by decide +kernel
theorem dX4_checkAll_130 : decode cX4_checkAll 130 = .ok (.aload_n 0, 1) := by decide +kernel
theorem dX4_checkAll_131 : decode cX4_checkAll 131 = .ok (.bipush 6, 2) := by decide +kernel
theorem dX4_checkAll_133 : decode cX4_checkAll 133 = .ok (.aload_n 0, 1) := by decide +kernel
theorem dX4_checkAll_134 : decode cX4_checkAll 134 = .ok (.getfield 22, 3) := by decide +kernel
theorem dX4_checkAll_137 : decode cX4_checkAll 137 = .ok (.invokevirtual 79, 3) := by decide +kernel
theorem dX4_checkAll_140 : decode cX4_checkAll 140 = .ok (.pop, 1) := by decide +kernel
theorem dX4_checkAll_141 : decode cX4_checkAll 141 = .ok (.goto 18, 3) := by decide +kernel
theorem dX4_checkAll_144 : decode cX4_checkAll 144 = .ok (.iload_n 2, 1) := by decide +kernel
theorem dX4_checkAll_145 : decode cX4_checkAll 145 = .ok (.ifCond .ne 14, 3) := by decide +kernel
theorem dX4_checkAll_148 : decode cX4_checkAll 148 = .ok (.aload_n 0, 1) := by decide +kernel
theorem dX4_checkAll_149 : decode cX4_checkAll 149 = .ok (.bipush 7, 2) := by decide +kernel
theorem dX4_checkAll_151 : decode cX4_checkAll 151 = .ok (.aload_n 0, 1) := by decide +kernel
theorem dX4_checkAll_152 : decode cX4_checkAll 152 = .ok (.getfield 22, 3) := by decide +kernel
theorem dX4_checkAll_155 : decode cX4_checkAll 155 = .ok (.invokevirtual 79, 3) := by decide +kernel
theorem dX4_checkAll_158 : decode cX4_checkAll 158 = .ok (.pop, 1) := by decide +kernel
theorem dX4_checkAll_159 : decode cX4_checkAll 159 = .ok (.return_, 1) := by decide +kernel
abbrev rm_X4_checkAll : Room := { frames := 2, cells := 0, slots := 0, locals := 41 }
theorem t_b_X4_checkAll_90 {G : oa_G} {O : oa_O} {A : Nat → Prop} {t : Nat → Nat} {h : Nat → Nat} {res : oa_I2} (C : oa_C G cX4_checkAll 7 RX4 none rm_X4_checkAll O A) (V : oa_I2)  (T : oa_I2) (x2 : Int32) (x3 : Int32) (s0 : Int32) (s1 : Int32) (k6 : Int32 → Int32 → Int32 → Option (oa_I2)) (hk6 : ∀ (b_x1 : Int32) (b_x2 : Int32) (b_x3 : Int32), k6 b_x1 b_x2 b_x3 = some res → ww G 7 O A (oa_Q G O A (0, 0) none (fun W1 => W1 = wd_T O t h res V)) (0, 0) 6 [(0, .ref (t 0)), (1, .int b_x1), (2, .int b_x2), (3, .int b_x3)] [] (wd_T O t h T V))  (hf : b_X4_checkAll_90 V k6 T x2 x3 s0 s1 = some res) : ww G 7 O A (oa_Q G O A (0, 0) none (fun W1 => W1 = wd_T O t h res V)) (0, 0) 90 [(0, .ref (t 0)), (2, .int x2), (3, .int x3)] [.int s1, .int s0] (wd_T O t h T V) := by
  delta b_X4_checkAll_90 at hf
  refine ww_iand (pc := 90) C dX4_checkAll_90 ?_
  obtain ⟨y26, e27, hf⟩ := oa_letE hf
  refine ww_topi C e27 ?_
  refine ww_istore_n (pc := 91) (L' := [(0, .ref (t 0)), (1, .int y26), (2, .int x2), (3, .int x3)]) C [1, 0, 2, 3] dX4_checkAll_91 rfl (Nat.le_of_ble_eq_true rfl) rfl ?_
  refine ww_iload_n (pc := 92) (i := 2) C 2 dX4_checkAll_92 rfl rfl ?_
  refine ww_aload_n (pc := 93) (i := 0) C 0 dX4_checkAll_93 rfl rfl ?_
  refine ww_get (pc := 94) C fl_X4_18 0 rfl rfl dX4_checkAll_94 ?_
  refine ww_iload_n (pc := 97) (i := 3) C 3 dX4_checkAll_97 rfl rfl ?_
  obtain ⟨y28, e29, hf⟩ := oa_bind hf
  refine ww_callV (pc := 98) (As := [.int x3]) (rest := [.int x2]) (wd := wd_V O h V) (ws' := wd_T O t h T V) (rv := (some (.int y28))) C hY_X5_angersOf hV_X5_angersOf lk_X4_181 (m_X5_angersOf _ O h V x3 _ e29) [2, 3, 4, 5, 6, 7] 2 rfl rfl rfl rfl rfl (oa_putS _ _ _ rfl) (fun _ h => h) ⟨rfl, rfl⟩ ⟨Nat.zero_le _, Nat.zero_le _⟩ ⟨Nat.le_of_ble_eq_true rfl, Nat.le_of_ble_eq_true rfl⟩ rfl (Nat.le_of_ble_eq_true rfl) rfl rfl dX4_checkAll_98 ?_
  refine ww_aload_n (pc := 101) (i := 0) C 0 dX4_checkAll_101 rfl rfl ?_
  refine ww_get (pc := 102) C fl_X4_18 0 rfl rfl dX4_checkAll_102 ?_
  refine ww_get (pc := 105) C fl_X4_119 2 rfl rfl dX4_checkAll_105 ?_
  refine ww_iconst (pc := 108) C dX4_checkAll_108 kc_0 ?_
  obtain ⟨y31, e32, hf⟩ := oa_bind hf
  refine ww_iald (pc := 109) C 3 rfl e32 dX4_checkAll_109 ?_
  refine ww_icmp_gt (pc := 110) (tgt := 117) C dX4_checkAll_110 (by decide) (fun c33 => ?_) (fun c33 => ?_)
  · have hf := oa_ifp c33 hf
    refine ww_iconst (pc := 117) C dX4_checkAll_117 kc_0 ?_
    refine ww_iand (pc := 118) C dX4_checkAll_118 ?_
    obtain ⟨y34, e35, hf⟩ := oa_letE hf
    refine ww_topi C e35 ?_
    refine ww_istore_n (pc := 119) (L' := [(0, .ref (t 0)), (1, .int y26), (2, .int y34), (3, .int x3)]) C [1, 2, 0, 3] dX4_checkAll_119 rfl (Nat.le_of_ble_eq_true rfl) rfl ?_
    refine ww_iinc (pc := 120) (v := (x3 + 1)) (L' := [(0, .ref (t 0)), (1, .int y26), (2, .int y34), (3, .int (x3 + 1))]) C 3 [1, 2, 3, 0] dX4_checkAll_120 rfl (ki_1 _) (Nat.le_of_ble_eq_true rfl) rfl ?_
    refine ww_goto (pc := 123) (tgt := 6) C dX4_checkAll_123 (by decide) ?_
    exact hk6 y26 y34 (x3 + 1) hf
  · have hf := oa_ifn c33 hf
    refine ww_iconst (pc := 113) C dX4_checkAll_113 kc_1 ?_
    refine ww_goto (pc := 114) (tgt := 118) C dX4_checkAll_114 (by decide) ?_
    refine ww_iand (pc := 118) C dX4_checkAll_118 ?_
    obtain ⟨y36, e37, hf⟩ := oa_letE hf
    refine ww_topi C e37 ?_
    refine ww_istore_n (pc := 119) (L' := [(0, .ref (t 0)), (1, .int y26), (2, .int y36), (3, .int x3)]) C [1, 2, 0, 3] dX4_checkAll_119 rfl (Nat.le_of_ble_eq_true rfl) rfl ?_
    refine ww_iinc (pc := 120) (v := (x3 + 1)) (L' := [(0, .ref (t 0)), (1, .int y26), (2, .int y36), (3, .int (x3 + 1))]) C 3 [1, 2, 3, 0] dX4_checkAll_120 rfl (ki_1 _) (Nat.le_of_ble_eq_true rfl) rfl ?_
    refine ww_goto (pc := 123) (tgt := 6) C dX4_checkAll_123 (by decide) ?_
    exact hk6 y26 y36 (x3 + 1) hf
theorem t_b_X4_checkAll_71 {G : oa_G} {O : oa_O} {A : Nat → Prop} {t : Nat → Nat} {h : Nat → Nat} {res : oa_I2} (C : oa_C G cX4_checkAll 7 RX4 none rm_X4_checkAll O A) (V : oa_I2)  (T : oa_I2) (x1 : Int32) (x2 : Int32) (x3 : Int32) (x4 : Int32) (s0 : Int32) (s1 : Int32) (k6 : Int32 → Int32 → Int32 → Option (oa_I2)) (hk6 : ∀ (b_x1 : Int32) (b_x2 : Int32) (b_x3 : Int32), k6 b_x1 b_x2 b_x3 = some res → ww G 7 O A (oa_Q G O A (0, 0) none (fun W1 => W1 = wd_T O t h res V)) (0, 0) 6 [(0, .ref (t 0)), (1, .int b_x1), (2, .int b_x2), (3, .int b_x3)] [] (wd_T O t h T V))  (hf : b_X4_checkAll_71 V k6 T x1 x2 x3 x4 s0 s1 = some res) : ww G 7 O A (oa_Q G O A (0, 0) none (fun W1 => W1 = wd_T O t h res V)) (0, 0) 71 [(0, .ref (t 0)), (1, .int x1), (2, .int x2), (3, .int x3), (4, .int x4)] [.int s1, .int s0] (wd_T O t h T V) := by
  delta b_X4_checkAll_71 at hf
  refine ww_ior (pc := 71) C dX4_checkAll_71 ?_
  obtain ⟨y23, e24, hf⟩ := oa_letE hf
  refine ww_topi C e24 ?_
  refine ww_istore (pc := 72) (L' := [(0, .ref (t 0)), (1, .int x1), (2, .int x2), (3, .int x3), (4, .int x4), (6, .int y23)]) C [1, 2, 3, 4, 5, 0] dX4_checkAll_72 (Nat.le_of_ble_eq_true rfl) rfl ?_
  refine ww_iload_n (pc := 74) (i := 1) C 1 dX4_checkAll_74 rfl rfl ?_
  refine ww_iload (pc := 75) (i := 6) C 5 dX4_checkAll_75 rfl ?_
  refine ww_iload (pc := 77) (i := 4) C 4 dX4_checkAll_77 rfl ?_
  refine ww_iconst (pc := 79) C dX4_checkAll_79 kc_m1 ?_
  refine ww_ixor (pc := 80) C dX4_checkAll_80 ?_
  refine ww_iand (pc := 81) C dX4_checkAll_81 ?_
  refine ww_if_ne (pc := 82) (tgt := 89) C dX4_checkAll_82 (by decide) (fun c25 => ?_) (fun c25 => ?_)
  · have hf := oa_ifn c25 hf
    refine ww_iconst (pc := 89) C dX4_checkAll_89 kc_0 ?_
    refine ww_sub C [0, 2, 3] rfl ?_
    exact t_b_X4_checkAll_90 C V T x2 x3 x1 0 k6 hk6 hf
  · have hf := oa_ifp c25 hf
    refine ww_iconst (pc := 85) C dX4_checkAll_85 kc_1 ?_
    refine ww_goto (pc := 86) (tgt := 90) C dX4_checkAll_86 (by decide) ?_
    refine ww_sub C [0, 2, 3] rfl ?_
    exact t_b_X4_checkAll_90 C V T x2 x3 x1 1 k6 hk6 hf
theorem t_b_X4_checkAll_6 {G : oa_G} {O : oa_O} {A : Nat → Prop} {t : Nat → Nat} {h : Nat → Nat} {res : oa_I2} (C : oa_C G cX4_checkAll 7 RX4 none rm_X4_checkAll O A) (V : oa_I2) (T : oa_I2)   (k6 : Int32 → Int32 → Int32 → Option (oa_I2))  (hk6 : ∀ (b_x1 : Int32) (b_x2 : Int32) (b_x3 : Int32), k6 b_x1 b_x2 b_x3 = some res → ww G 7 O A (oa_Q G O A (0, 0) none (fun W1 => W1 = wd_T O t h res V)) (0, 0) 6 [(0, .ref (t 0)), (1, .int b_x1), (2, .int b_x2), (3, .int b_x3)] [] (wd_T O t h T V)) (x1 : Int32) (x2 : Int32) (x3 : Int32) (hf : b_X4_checkAll_6 V T k6 x1 x2 x3 = some res) : ww G 7 O A (oa_Q G O A (0, 0) none (fun W1 => W1 = wd_T O t h res V)) (0, 0) 6 [(0, .ref (t 0)), (1, .int x1), (2, .int x2), (3, .int x3)] [] (wd_T O t h T V) := by
  delta b_X4_checkAll_6 at hf
  refine ww_iload_n (pc := 6) (i := 3) C 3 dX4_checkAll_6 rfl rfl ?_
  refine ww_aload_n (pc := 7) (i := 0) C 0 dX4_checkAll_7 rfl rfl ?_
  refine ww_get (pc := 8) C fl_X4_18 0 rfl rfl dX4_checkAll_8 ?_
  refine ww_get (pc := 11) C fl_X4_125 2 rfl rfl dX4_checkAll_11 ?_
  refine ww_icmp_ge (pc := 14) (tgt := 126) C dX4_checkAll_14 (by decide) (fun c1 => ?_) (fun c1 => ?_)
  · have hf := oa_ifp c1 hf
    refine ww_iload_n (pc := 126) (i := 1) C 1 dX4_checkAll_126 rfl rfl ?_
    refine ww_if_ne (pc := 127) (tgt := 144) C dX4_checkAll_127 (by decide) (fun c2 => ?_) (fun c2 => ?_)
    · have hf := oa_ifn c2 hf
      refine ww_iload_n (pc := 144) (i := 2) C 2 dX4_checkAll_144 rfl rfl ?_
      refine ww_if_ne (pc := 145) (tgt := 159) C dX4_checkAll_145 (by decide) (fun c3 => ?_) (fun c3 => ?_)
      · have hf := oa_ifn c3 hf
        obtain rfl := Option.some.inj hf
        exact ww_vret (pc := 159) C rfl dX4_checkAll_159
      · have hf := oa_ifp c3 hf
        refine ww_aload_n (pc := 148) (i := 0) C 0 dX4_checkAll_148 rfl rfl ?_
        refine ww_bipush (pc := 149) C dX4_checkAll_149 kb_7 ?_
        refine ww_aload_n (pc := 151) (i := 0) C 0 dX4_checkAll_151 rfl rfl ?_
        refine ww_get (pc := 152) C fl_X4_22 0 rfl rfl dX4_checkAll_152 ?_
        obtain ⟨y4, T5, e6, hf⟩ := oa_bind2 hf
        refine ww_callV (pc := 155) (As := [.int 7, .int (T 1 0)]) (rest := []) (wd := wd_T O t h T5 V) (ws' := wd_T O t h T5 V) (rv := (some (.int y4))) C hY_X4_fail hV_X4_fail lk_X4_79 (m_X4_fail _ O t h T V 7 (T 1 0) _ e6) [0, 1, 2, 3, 4, 5, 6, 7] 0 rfl rfl rfl rfl rfl rfl (fun _ h => h) ⟨rfl, rfl⟩ ⟨Nat.zero_le _, Nat.zero_le _⟩ ⟨Nat.le_of_ble_eq_true rfl, Nat.le_of_ble_eq_true rfl⟩ rfl (Nat.le_of_ble_eq_true rfl) rfl rfl dX4_checkAll_155 ?_
        refine ww_pop (pc := 158) C dX4_checkAll_158 rfl ?_
        obtain rfl := Option.some.inj hf
        exact ww_vret (pc := 159) C rfl dX4_checkAll_159
    · have hf := oa_ifp c2 hf
      refine ww_aload_n (pc := 130) (i := 0) C 0 dX4_checkAll_130 rfl rfl ?_
      refine ww_bipush (pc := 131) C dX4_checkAll_131 kb_6 ?_
      refine ww_aload_n (pc := 133) (i := 0) C 0 dX4_checkAll_133 rfl rfl ?_
      refine ww_get (pc := 134) C fl_X4_22 0 rfl rfl dX4_checkAll_134 ?_
      obtain ⟨y8, T9, e10, hf⟩ := oa_bind2 hf
      refine ww_callV (pc := 137) (As := [.int 6, .int (T 1 0)]) (rest := []) (wd := wd_T O t h T9 V) (ws' := wd_T O t h T9 V) (rv := (some (.int y8))) C hY_X4_fail hV_X4_fail lk_X4_79 (m_X4_fail _ O t h T V 6 (T 1 0) _ e10) [0, 1, 2, 3, 4, 5, 6, 7] 0 rfl rfl rfl rfl rfl rfl (fun _ h => h) ⟨rfl, rfl⟩ ⟨Nat.zero_le _, Nat.zero_le _⟩ ⟨Nat.le_of_ble_eq_true rfl, Nat.le_of_ble_eq_true rfl⟩ rfl (Nat.le_of_ble_eq_true rfl) rfl rfl dX4_checkAll_137 ?_
      refine ww_pop (pc := 140) C dX4_checkAll_140 rfl ?_
      refine ww_goto (pc := 141) (tgt := 159) C dX4_checkAll_141 (by decide) ?_
      obtain rfl := Option.some.inj hf
      exact ww_vret (pc := 159) C rfl dX4_checkAll_159
  · have hf := oa_ifn c1 hf
    refine ww_aload_n (pc := 17) (i := 0) C 0 dX4_checkAll_17 rfl rfl ?_
    refine ww_get (pc := 18) C fl_X4_18 0 rfl rfl dX4_checkAll_18 ?_
    obtain ⟨y12, e13, hf⟩ := oa_bind hf
    refine ww_callV (pc := 21) (As := []) (rest := []) (wd := wd_V O h V) (ws' := wd_T O t h T V) (rv := (some (.int y12))) C hY_X5_everybody hV_X5_everybody lk_X4_171 (m_X5_everybody _ O h V _ e13) [2, 3, 4, 5, 6, 7] 2 rfl rfl rfl rfl rfl (oa_putS _ _ _ rfl) (fun _ h => h) ⟨rfl, rfl⟩ ⟨Nat.zero_le _, Nat.zero_le _⟩ ⟨Nat.le_of_ble_eq_true rfl, Nat.le_of_ble_eq_true rfl⟩ rfl (Nat.le_of_ble_eq_true rfl) rfl rfl dX4_checkAll_21 ?_
    refine ww_iconst (pc := 24) C dX4_checkAll_24 kc_1 ?_
    refine ww_iload_n (pc := 25) (i := 3) C 3 dX4_checkAll_25 rfl rfl ?_
    refine ww_ishl (pc := 26) C dX4_checkAll_26 ?_
    refine ww_iconst (pc := 27) C dX4_checkAll_27 kc_m1 ?_
    refine ww_ixor (pc := 28) C dX4_checkAll_28 ?_
    refine ww_iand (pc := 29) C dX4_checkAll_29 ?_
    obtain ⟨y15, e16, hf⟩ := oa_letE hf
    refine ww_topi C e16 ?_
    refine ww_istore (pc := 30) (L' := [(0, .ref (t 0)), (1, .int x1), (2, .int x2), (3, .int x3), (4, .int y15)]) C [1, 2, 3, 4, 0] dX4_checkAll_30 (Nat.le_of_ble_eq_true rfl) rfl ?_
    refine ww_aload_n (pc := 32) (i := 0) C 0 dX4_checkAll_32 rfl rfl ?_
    refine ww_get (pc := 33) C fl_X4_18 0 rfl rfl dX4_checkAll_33 ?_
    refine ww_bipush (pc := 36) C dX4_checkAll_36 kb_7 ?_
    refine ww_iload_n (pc := 38) (i := 3) C 3 dX4_checkAll_38 rfl rfl ?_
    obtain ⟨y17, e18, hf⟩ := oa_bind hf
    refine ww_callV (pc := 39) (As := [.int 7, .int x3]) (rest := []) (wd := wd_V O h V) (ws' := wd_T O t h T V) (rv := (some (.int y17))) C hY_X5_trait hV_X5_trait lk_X4_174 (m_X5_trait _ O h V 7 x3 _ e18) [2, 3, 4, 5, 6, 7] 2 rfl rfl rfl rfl rfl (oa_putS _ _ _ rfl) (fun _ h => h) ⟨rfl, rfl⟩ ⟨Nat.zero_le _, Nat.zero_le _⟩ ⟨Nat.le_of_ble_eq_true rfl, Nat.le_of_ble_eq_true rfl⟩ rfl (Nat.le_of_ble_eq_true rfl) rfl rfl dX4_checkAll_39 ?_
    refine ww_istore (pc := 42) (L' := [(0, .ref (t 0)), (1, .int x1), (2, .int x2), (3, .int x3), (4, .int y15), (5, .int y17)]) C [1, 2, 3, 4, 5, 0] dX4_checkAll_42 (Nat.le_of_ble_eq_true rfl) rfl ?_
    refine ww_aload_n (pc := 44) (i := 0) C 0 dX4_checkAll_44 rfl rfl ?_
    refine ww_get (pc := 45) C fl_X4_18 0 rfl rfl dX4_checkAll_45 ?_
    refine ww_get (pc := 48) C fl_X4_178 2 rfl rfl dX4_checkAll_48 ?_
    refine ww_iload_n (pc := 51) (i := 3) C 3 dX4_checkAll_51 rfl rfl ?_
    obtain ⟨y20, e21, hf⟩ := oa_bind hf
    refine ww_iald (pc := 52) C 5 rfl e21 dX4_checkAll_52 ?_
    refine ww_bipush (pc := 53) C dX4_checkAll_53 kb_m65 ?_
    refine ww_iand (pc := 55) C dX4_checkAll_55 ?_
    refine ww_iload (pc := 56) (i := 5) C 5 dX4_checkAll_56 rfl ?_
    refine ww_bipush (pc := 58) C dX4_checkAll_58 kb_m4 ?_
    refine ww_icmp_ne (pc := 60) (tgt := 67) C dX4_checkAll_60 (by decide) (fun c22 => ?_) (fun c22 => ?_)
    · have hf := oa_ifn c22 hf
      refine ww_iconst (pc := 67) C dX4_checkAll_67 kc_1 ?_
      refine ww_iload (pc := 68) (i := 5) C 5 dX4_checkAll_68 rfl ?_
      refine ww_ishl (pc := 70) C dX4_checkAll_70 ?_
      refine ww_sub C [0, 1, 2, 3, 4] rfl ?_
      exact t_b_X4_checkAll_71 C V T x1 x2 x3 y15 (y20 &&& (-65)) ((1 : Int32) <<< (y17 &&& 31)) k6 hk6 hf
    · have hf := oa_ifp c22 hf
      refine ww_iconst (pc := 63) C dX4_checkAll_63 kc_0 ?_
      refine ww_goto (pc := 64) (tgt := 71) C dX4_checkAll_64 (by decide) ?_
      refine ww_sub C [0, 1, 2, 3, 4] rfl ?_
      exact t_b_X4_checkAll_71 C V T x1 x2 x3 y15 (y20 &&& (-65)) 0 k6 hk6 hf
theorem t_l_X4_checkAll_6 {G : oa_G} {O : oa_O} {A : Nat → Prop} {t : Nat → Nat} {h : Nat → Nat} {res : oa_I2} (C : oa_C G cX4_checkAll 7 RX4 none rm_X4_checkAll O A) (V : oa_I2) (T : oa_I2)   : ∀ (n : Nat) (x1 : Int32) (x2 : Int32) (x3 : Int32), l_X4_checkAll_6 V T n x1 x2 x3 = some res → ww G 7 O A (oa_Q G O A (0, 0) none (fun W1 => W1 = wd_T O t h res V)) (0, 0) 6 [(0, .ref (t 0)), (1, .int x1), (2, .int x2), (3, .int x3)] [] (wd_T O t h T V) := by
  intro n
  induction n with
  | zero => intro x1 x2 x3 hf; exact absurd (show (none : Option (oa_I2)) = some res from hf) (fun h => nomatch h)
  | succ n ih =>
    intro x1 x2 x3 hf
    exact t_b_X4_checkAll_6 C V T (fun x1 x2 x3 => l_X4_checkAll_6 V T n x1 x2 x3)  (fun x1 x2 x3 h => ih x1 x2 x3 h) x1 x2 x3 hf
theorem m_X4_checkAll (l : Launch) (O : oa_O) (t : Nat → Nat) (h : Nat → Nat) (T : oa_I2) (V : oa_I2)  (res : oa_I2) (hf : f_X4_checkAll T V = some res) : oa_M l yX4_checkAll cX4_checkAll 7 none rm_X4_checkAll O [.ref (t 0)] (wd_T O t h T V) none (fun W1 => W1 = wd_T O t h res V) := by
  refine oa_Mof (by decide) (Nat.le_of_ble_eq_true rfl) (fun G A hl C => ?_)
  subst hl
  have C : oa_C G cX4_checkAll 7 RX4 none rm_X4_checkAll O A := C
  have hf : f_X4_checkAll T V = some res := hf
  delta f_X4_checkAll at hf
  show ww G 7 O A (oa_Q G O A (0, 0) none (fun W1 => W1 = wd_T O t h res V)) (0, 0) 0 [(0, .ref (t 0))] [] (wd_T O t h T V)
  refine ww_iconst (pc := 0) C dX4_checkAll_0 kc_1 ?_
  refine ww_istore_n (pc := 1) (L' := [(0, .ref (t 0)), (1, .int 1)]) C [1, 0] dX4_checkAll_1 rfl (Nat.le_of_ble_eq_true rfl) rfl ?_
  refine ww_iconst (pc := 2) C dX4_checkAll_2 kc_1 ?_
  refine ww_istore_n (pc := 3) (L' := [(0, .ref (t 0)), (1, .int 1), (2, .int 1)]) C [1, 2, 0] dX4_checkAll_3 rfl (Nat.le_of_ble_eq_true rfl) rfl ?_
  refine ww_iconst (pc := 4) C dX4_checkAll_4 kc_0 ?_
  refine ww_istore_n (pc := 5) (L' := [(0, .ref (t 0)), (1, .int 1), (2, .int 1), (3, .int 0)]) C [1, 2, 3, 0] dX4_checkAll_5 rfl (Nat.le_of_ble_eq_true rfl) rfl ?_
  exact t_l_X4_checkAll_6 C V T   oa_fu 1 1 0 hf
theorem dX4_cut_0 : decode cX4_cut 0 = .ok (.iload_n 1, 1) := by decide +kernel
theorem dX4_cut_1 : decode cX4_cut 1 = .ok (.iconst 0, 1) := by decide +kernel
theorem dX4_cut_2 : decode cX4_cut 2 = .ok (.aload_n 0, 1) := by decide +kernel
theorem dX4_cut_3 : decode cX4_cut 3 = .ok (.getfield 22, 3) := by decide +kernel
theorem dX4_cut_6 : decode cX4_cut 6 = .ok (.invokestatic 26, 3) := by decide +kernel
theorem dX4_cut_9 : decode cX4_cut 9 = .ok (.ifCond .ne 5, 3) := by decide +kernel
theorem dX4_cut_12 : decode cX4_cut 12 = .ok (.iconst (-1), 1) := by decide +kernel
theorem dX4_cut_13 : decode cX4_cut 13 = .ok (.ireturn, 1) := by decide +kernel
theorem dX4_cut_14 : decode cX4_cut 14 = .ok (.aload_n 0, 1) := by decide +kernel
theorem dX4_cut_15 : decode cX4_cut 15 = .ok (.getfield 22, 3) := by decide +kernel
theorem dX4_cut_18 : decode cX4_cut 18 = .ok (.istore_n 2, 1) := by decide +kernel
theorem dX4_cut_19 : decode cX4_cut 19 = .ok (.aload_n 0, 1) := by decide +kernel
theorem dX4_cut_20 : decode cX4_cut 20 = .ok (.iload_n 1, 1) := by decide +kernel
theorem dX4_cut_21 : decode cX4_cut 21 = .ok (.putfield 22, 3) := by decide +kernel
theorem dX4_cut_24 : decode cX4_cut 24 = .ok (.iload_n 2, 1) := by decide +kernel
theorem dX4_cut_25 : decode cX4_cut 25 = .ok (.ireturn, 1) := by decide +kernel
abbrev rm_X4_cut : Room := { frames := 1, cells := 0, slots := 0, locals := 22 }
theorem m_X4_cut (l : Launch) (O : oa_O) (t : Nat → Nat) (h : Nat → Nat) (T : oa_I2) (V : oa_I2) (x1 : Int32) (res : Int32 × oa_I2) (hf : f_X4_cut T V x1 = some res) : oa_M l yX4_cut cX4_cut 3 (some .int) rm_X4_cut O [.ref (t 0), .int x1] (wd_T O t h T V) (some (.int res.1)) (fun W1 => W1 = wd_T O t h res.2 V) := by
  refine oa_Mof (by decide) (Nat.le_of_ble_eq_true rfl) (fun G A hl C => ?_)
  subst hl
  have C : oa_C G cX4_cut 3 RX4 (some .int) rm_X4_cut O A := C
  have hf : f_X4_cut T V x1 = some res := hf
  delta f_X4_cut at hf
  show ww G 3 O A (oa_Q G O A (0, 0) (some (.int res.1)) (fun W1 => W1 = wd_T O t h res.2 V)) (0, 0) 0 [(0, .ref (t 0)), (1, .int x1)] [] (wd_T O t h T V)
  refine ww_iload_n (pc := 0) (i := 1) C 1 dX4_cut_0 rfl rfl ?_
  refine ww_iconst (pc := 1) C dX4_cut_1 kc_0 ?_
  refine ww_aload_n (pc := 2) (i := 0) C 0 dX4_cut_2 rfl rfl ?_
  refine ww_get (pc := 3) C fl_X4_22 0 rfl rfl dX4_cut_3 ?_
  obtain ⟨y1, e2, hf⟩ := oa_bind hf
  refine ww_callN (pc := 6) (ho := "OneAnger") (As := [.int x1, .int 0, .int (T 1 0)]) (rest := []) (wd := []) (ws' := wd_T O t h T V) (rv := (some (.int y1))) C hY_X6_within hS_X6_within (by decide +kernel) (m_X6_within _ O  x1 0 (T 1 0) _ e2) [] rfl rfl rfl (oa_putS _ _ _ rfl) (fun _ h => h) ⟨rfl, rfl⟩ ⟨Nat.zero_le _, Nat.zero_le _⟩ ⟨Nat.le_of_ble_eq_true rfl, Nat.le_of_ble_eq_true rfl⟩ rfl (Nat.le_of_ble_eq_true rfl) rfl rfl dX4_cut_6 ?_
  refine ww_if_ne (pc := 9) (tgt := 14) C dX4_cut_9 (by decide) (fun c4 => ?_) (fun c4 => ?_)
  · have hf := oa_ifn c4 hf
    refine ww_aload_n (pc := 14) (i := 0) C 0 dX4_cut_14 rfl rfl ?_
    refine ww_get (pc := 15) C fl_X4_22 0 rfl rfl dX4_cut_15 ?_
    obtain ⟨y5, e6, hf⟩ := oa_letE hf
    refine ww_topi C e6 ?_
    refine ww_istore_n (pc := 18) (L' := [(0, .ref (t 0)), (1, .int x1), (2, .int y5)]) C [1, 2, 0] dX4_cut_18 rfl (Nat.le_of_ble_eq_true rfl) rfl ?_
    refine ww_aload_n (pc := 19) (i := 0) C 0 dX4_cut_19 rfl rfl ?_
    refine ww_iload_n (pc := 20) (i := 1) C 1 dX4_cut_20 rfl rfl ?_
    obtain ⟨T7, e8, hf⟩ := oa_letE hf
    refine ww_put (pc := 21) C fl_X4_22 (fun Z => wd_T O t h Z V) 0 rfl rfl rfl (Nat.le_of_ble_eq_true rfl) e8 rfl dX4_cut_21 ?_
    refine ww_iload_n (pc := 24) (i := 2) C 2 dX4_cut_24 rfl rfl ?_
    obtain rfl := Option.some.inj hf
    exact ww_iret (pc := 25) C rfl dX4_cut_25
  · have hf := oa_ifp c4 hf
    refine ww_iconst (pc := 12) C dX4_cut_12 kc_m1 ?_
    obtain rfl := Option.some.inj hf
    exact ww_iret (pc := 13) C rfl dX4_cut_13
theorem dX4_isName_0 : decode cX4_isName 0 = .ok (.aload_n 0, 1) := by decide +kernel
theorem dX4_isName_1 : decode cX4_isName 1 = .ok (.getfield 49, 3) := by decide +kernel
theorem dX4_isName_4 : decode cX4_isName 4 = .ok (.iconst 1, 1) := by decide +kernel
theorem dX4_isName_5 : decode cX4_isName 5 = .ok (.if_icmp .ne 19, 3) := by decide +kernel
theorem dX4_isName_8 : decode cX4_isName 8 = .ok (.aload_n 1, 1) := by decide +kernel
theorem dX4_isName_9 : decode cX4_isName 9 = .ok (.invokevirtual 83, 3) := by decide +kernel
theorem dX4_isName_12 : decode cX4_isName 12 = .ok (.aload_n 0, 1) := by decide +kernel
theorem dX4_isName_13 : decode cX4_isName 13 = .ok (.getfield 39, 3) := by decide +kernel
theorem dX4_isName_16 : decode cX4_isName 16 = .ok (.aload_n 0, 1) := by decide +kernel
theorem dX4_isName_17 : decode cX4_isName 17 = .ok (.getfield 72, 3) := by decide +kernel
theorem dX4_isName_20 : decode cX4_isName 20 = .ok (.isub, 1) := by decide +kernel
theorem dX4_isName_21 : decode cX4_isName 21 = .ok (.if_icmp .eq 5, 3) := by decide +kernel
theorem dX4_isName_24 : decode cX4_isName 24 = .ok (.iconst 0, 1) := by decide +kernel
theorem dX4_isName_25 : decode cX4_isName 25 = .ok (.ireturn, 1) := by decide +kernel
theorem dX4_isName_26 : decode cX4_isName 26 = .ok (.aload_n 0, 1) := by decide +kernel
theorem dX4_isName_27 : decode cX4_isName 27 = .ok (.getfield 72, 3) := by decide +kernel
theorem dX4_isName_30 : decode cX4_isName 30 = .ok (.istore_n 2, 1) := by decide +kernel
theorem dX4_isName_31 : decode cX4_isName 31 = .ok (.iload_n 2, 1) := by decide +kernel
theorem dX4_isName_32 : decode cX4_isName 32 = .ok (.aload_n 0, 1) := by decide +kernel
theorem dX4_isName_33 : decode cX4_isName 33 = .ok (.getfield 39, 3) := by decide +kernel
theorem dX4_isName_36 : decode cX4_isName 36 = .ok (.if_icmp .ge 30, 3) := by decide +kernel
theorem dX4_isName_39 : decode cX4_isName 39 = .ok (.aload_n 0, 1) := by decide +kernel
theorem dX4_isName_40 : decode cX4_isName 40 = .ok (.getfield 9, 3) := by decide +kernel
theorem dX4_isName_43 : decode cX4_isName 43 = .ok (.iload_n 2, 1) := by decide +kernel
theorem dX4_isName_44 : decode cX4_isName 44 = .ok (.iaload, 1) := by decide +kernel
theorem dX4_isName_45 : decode cX4_isName 45 = .ok (.aload_n 1, 1) := by decide +kernel
theorem dX4_isName_46 : decode cX4_isName 46 = .ok (.iload_n 2, 1) := by decide +kernel
theorem dX4_isName_47 : decode cX4_isName 47 = .ok (.aload_n 0, 1) := by decide +kernel
theorem dX4_isName_48 : decode cX4_isName 48 = .ok (.getfield 72, 3) := by decide +kernel
theorem dX4_isName_51 : decode cX4_isName 51 = .ok (.isub, 1) := by decide +kernel
theorem dX4_isName_52 : decode cX4_isName 52 = .ok (.invokevirtual 88, 3) := by decide +kernel
theorem dX4_isName_55 : decode cX4_isName 55 = .ok (.if_icmp .eq 5, 3) := by decide +kernel
theorem dX4_isName_58 : decode cX4_isName 58 = .ok (.iconst 0, 1) := by decide +kernel
theorem dX4_isName_59 : decode cX4_isName 59 = .ok (.ireturn, 1) := by decide +kernel
theorem dX4_isName_60 : decode cX4_isName 60 = .ok (.iinc 2 1, 3) := by decide +kernel
theorem dX4_isName_63 : decode cX4_isName 63 = .ok (.goto (-32), 3) := by decide +kernel
theorem dX4_isName_66 : decode cX4_isName 66 = .ok (.iconst 1, 1) := by decide +kernel
theorem dX4_isName_67 : decode cX4_isName 67 = .ok (.ireturn, 1) := by decide +kernel
abbrev rm_X4_isName : Room := { frames := 4, cells := 0, slots := 0, locals := 85 }
theorem t_b_X4_isName_31 {G : oa_G} {O : oa_O} {A : Nat → Prop} {t : Nat → Nat} {h : Nat → Nat} {res : Int32} (C : oa_C G cX4_isName 3 RX4 (some .boolean) rm_X4_isName O A) (kS : Nat) (T : oa_I2) (V : oa_I2) (hkS : kS < 13)    (k31 : Int32 → Option (Int32))  (hk31 : ∀ (b_x2 : Int32), k31 b_x2 = some res → ww G 3 O A (oa_Q G O A (0, 0) (some (.int res)) (fun W1 => W1 = wd_T O t h T V)) (0, 0) 31 [(0, .ref (t 0)), (1, .ref (O.2.1 kS)), (2, .int b_x2)] [] (wd_T O t h T V)) (x2 : Int32) (hf : b_X4_isName_31 kS T V k31 x2 = some res) : ww G 3 O A (oa_Q G O A (0, 0) (some (.int res)) (fun W1 => W1 = wd_T O t h T V)) (0, 0) 31 [(0, .ref (t 0)), (1, .ref (O.2.1 kS)), (2, .int x2)] [] (wd_T O t h T V) := by
  delta b_X4_isName_31 at hf
  refine ww_iload_n (pc := 31) (i := 2) C 2 dX4_isName_31 rfl rfl ?_
  refine ww_aload_n (pc := 32) (i := 0) C 0 dX4_isName_32 rfl rfl ?_
  refine ww_get (pc := 33) C fl_X4_39 0 rfl rfl dX4_isName_33 ?_
  refine ww_icmp_ge (pc := 36) (tgt := 66) C dX4_isName_36 (by decide) (fun c5 => ?_) (fun c5 => ?_)
  · have hf := oa_ifp c5 hf
    refine ww_iconst (pc := 66) C dX4_isName_66 kc_1 ?_
    obtain rfl := Option.some.inj hf
    exact ww_zret (pc := 67) C kz_1 rfl dX4_isName_67
  · have hf := oa_ifn c5 hf
    refine ww_aload_n (pc := 39) (i := 0) C 0 dX4_isName_39 rfl rfl ?_
    refine ww_get (pc := 40) C fl_X4_9 0 rfl rfl dX4_isName_40 ?_
    refine ww_iload_n (pc := 43) (i := 2) C 2 dX4_isName_43 rfl rfl ?_
    obtain ⟨y6, e7, hf⟩ := oa_bind hf
    refine ww_iald (pc := 44) C 1 rfl e7 dX4_isName_44 ?_
    refine ww_aload_n (pc := 45) (i := 1) C 1 dX4_isName_45 rfl rfl ?_
    refine ww_iload_n (pc := 46) (i := 2) C 2 dX4_isName_46 rfl rfl ?_
    refine ww_aload_n (pc := 47) (i := 0) C 0 dX4_isName_47 rfl rfl ?_
    refine ww_get (pc := 48) C fl_X4_72 0 rfl rfl dX4_isName_48 ?_
    refine ww_isub (pc := 51) C dX4_isName_51 ?_
    obtain ⟨y8, e9, hf⟩ := oa_bind hf
    refine ww_scha (pc := 52) (rest := [.int y6]) C hkS lk_X4_88 e9 ⟨Nat.le_of_ble_eq_true rfl, Nat.le_of_ble_eq_true rfl⟩ (Nat.le_of_ble_eq_true rfl) dX4_isName_52 ?_
    refine ww_icmp_eq (pc := 55) (tgt := 60) C dX4_isName_55 (by decide) (fun c10 => ?_) (fun c10 => ?_)
    · have hf := oa_ifp c10 hf
      refine ww_iinc (pc := 60) (v := (x2 + 1)) (L' := [(0, .ref (t 0)), (1, .ref (O.2.1 kS)), (2, .int (x2 + 1))]) C 2 [1, 2, 0] dX4_isName_60 rfl (ki_1 _) (Nat.le_of_ble_eq_true rfl) rfl ?_
      refine ww_goto (pc := 63) (tgt := 31) C dX4_isName_63 (by decide) ?_
      exact hk31 (x2 + 1) hf
    · have hf := oa_ifn c10 hf
      refine ww_iconst (pc := 58) C dX4_isName_58 kc_0 ?_
      obtain rfl := Option.some.inj hf
      exact ww_zret (pc := 59) C kz_0 rfl dX4_isName_59
theorem t_l_X4_isName_31 {G : oa_G} {O : oa_O} {A : Nat → Prop} {t : Nat → Nat} {h : Nat → Nat} {res : Int32} (C : oa_C G cX4_isName 3 RX4 (some .boolean) rm_X4_isName O A) (kS : Nat) (T : oa_I2) (V : oa_I2) (hkS : kS < 13)    : ∀ (n : Nat) (x2 : Int32), l_X4_isName_31 kS T V n x2 = some res → ww G 3 O A (oa_Q G O A (0, 0) (some (.int res)) (fun W1 => W1 = wd_T O t h T V)) (0, 0) 31 [(0, .ref (t 0)), (1, .ref (O.2.1 kS)), (2, .int x2)] [] (wd_T O t h T V) := by
  intro n
  induction n with
  | zero => intro x2 hf; exact absurd (show (none : Option (Int32)) = some res from hf) (fun h => nomatch h)
  | succ n ih =>
    intro x2 hf
    exact t_b_X4_isName_31 C kS T V hkS  (fun x2 => l_X4_isName_31 kS T V n x2)  (fun x2 h => ih x2 h) x2 hf
theorem m_X4_isName (l : Launch) (O : oa_O) (t : Nat → Nat) (h : Nat → Nat) {kS : Nat} (hkS : kS < 13) (T : oa_I2) (V : oa_I2)  (res : Int32) (hf : f_X4_isName kS T V = some res) : oa_M l yX4_isName cX4_isName 3 (some .boolean) rm_X4_isName O [.ref (t 0), .ref (O.2.1 kS)] (wd_T O t h T V) (some (.int res)) (fun W1 => W1 = wd_T O t h T V) := by
  refine oa_Mof (by decide) (Nat.le_of_ble_eq_true rfl) (fun G A hl C => ?_)
  subst hl
  have C : oa_C G cX4_isName 3 RX4 (some .boolean) rm_X4_isName O A := C
  have hf : f_X4_isName kS T V = some res := hf
  delta f_X4_isName at hf
  show ww G 3 O A (oa_Q G O A (0, 0) (some (.int res)) (fun W1 => W1 = wd_T O t h T V)) (0, 0) 0 [(0, .ref (t 0)), (1, .ref (O.2.1 kS))] [] (wd_T O t h T V)
  refine ww_aload_n (pc := 0) (i := 0) C 0 dX4_isName_0 rfl rfl ?_
  refine ww_get (pc := 1) C fl_X4_49 0 rfl rfl dX4_isName_1 ?_
  refine ww_iconst (pc := 4) C dX4_isName_4 kc_1 ?_
  refine ww_icmp_ne (pc := 5) (tgt := 24) C dX4_isName_5 (by decide) (fun c1 => ?_) (fun c1 => ?_)
  · have hf := oa_ifn c1 hf
    refine ww_iconst (pc := 24) C dX4_isName_24 kc_0 ?_
    obtain rfl := Option.some.inj hf
    exact ww_zret (pc := 25) C kz_0 rfl dX4_isName_25
  · have hf := oa_ifp c1 hf
    refine ww_aload_n (pc := 8) (i := 1) C 1 dX4_isName_8 rfl rfl ?_
    refine ww_slen (pc := 9) (rest := []) C hkS lk_X4_83 ⟨Nat.le_of_ble_eq_true rfl, Nat.le_of_ble_eq_true rfl⟩ (Nat.le_of_ble_eq_true rfl) dX4_isName_9 ?_
    refine ww_aload_n (pc := 12) (i := 0) C 0 dX4_isName_12 rfl rfl ?_
    refine ww_get (pc := 13) C fl_X4_39 0 rfl rfl dX4_isName_13 ?_
    refine ww_aload_n (pc := 16) (i := 0) C 0 dX4_isName_16 rfl rfl ?_
    refine ww_get (pc := 17) C fl_X4_72 0 rfl rfl dX4_isName_17 ?_
    refine ww_isub (pc := 20) C dX4_isName_20 ?_
    refine ww_icmp_eq (pc := 21) (tgt := 26) C dX4_isName_21 (by decide) (fun c2 => ?_) (fun c2 => ?_)
    · have hf := oa_ifp c2 hf
      refine ww_aload_n (pc := 26) (i := 0) C 0 dX4_isName_26 rfl rfl ?_
      refine ww_get (pc := 27) C fl_X4_72 0 rfl rfl dX4_isName_27 ?_
      obtain ⟨y3, e4, hf⟩ := oa_letE hf
      refine ww_topi C e4 ?_
      refine ww_istore_n (pc := 30) (L' := [(0, .ref (t 0)), (1, .ref (O.2.1 kS)), (2, .int y3)]) C [1, 2, 0] dX4_isName_30 rfl (Nat.le_of_ble_eq_true rfl) rfl ?_
      exact t_l_X4_isName_31 C kS T V hkS    oa_fu y3 hf
    · have hf := oa_ifn c2 hf
      refine ww_iconst (pc := 24) C dX4_isName_24 kc_0 ?_
      obtain rfl := Option.some.inj hf
      exact ww_zret (pc := 25) C kz_0 rfl dX4_isName_25
theorem dX4_lineNamed_0 : decode cX4_lineNamed 0 = .ok (.aload_n 0, 1) := by decide +kernel
theorem dX4_lineNamed_1 : decode cX4_lineNamed 1 = .ok (.ldc 98, 2) := by decide +kernel
theorem dX4_lineNamed_3 : decode cX4_lineNamed 3 = .ok (.invokevirtual 100, 3) := by decide +kernel
theorem dX4_lineNamed_6 : decode cX4_lineNamed 6 = .ok (.ifCond .eq 5, 3) := by decide +kernel
theorem dX4_lineNamed_9 : decode cX4_lineNamed 9 = .ok (.iconst 3, 1) := by decide +kernel
theorem dX4_lineNamed_10 : decode cX4_lineNamed 10 = .ok (.ireturn, 1) := by decide +kernel
theorem dX4_lineNamed_11 : decode cX4_lineNamed 11 = .ok (.aload_n 0, 1) := by decide +kernel
theorem dX4_lineNamed_12 : decode cX4_lineNamed 12 = .ok (.ldc 104, 2) := by decide +kernel
theorem dX4_lineNamed_14 : decode cX4_lineNamed 14 = .ok (.invokevirtual 100, 3) := by decide +kernel
theorem dX4_lineNamed_17 : decode cX4_lineNamed 17 = .ok (.ifCond .eq 5, 3) := by decide +kernel
theorem dX4_lineNamed_20 : decode cX4_lineNamed 20 = .ok (.iconst 0, 1) := by decide +kernel
theorem dX4_lineNamed_21 : decode cX4_lineNamed 21 = .ok (.ireturn, 1) := by decide +kernel
theorem dX4_lineNamed_22 : decode cX4_lineNamed 22 = .ok (.aload_n 0, 1) := by decide +kernel
theorem dX4_lineNamed_23 : decode cX4_lineNamed 23 = .ok (.ldc 106, 2) := by decide +kernel
theorem dX4_lineNamed_25 : decode cX4_lineNamed 25 = .ok (.invokevirtual 100, 3) := by decide +kernel
theorem dX4_lineNamed_28 : decode cX4_lineNamed 28 = .ok (.ifCond .eq 5, 3) := by decide +kernel
theorem dX4_lineNamed_31 : decode cX4_lineNamed 31 = .ok (.iconst 1, 1) := by decide +kernel
theorem dX4_lineNamed_32 : decode cX4_lineNamed 32 = .ok (.ireturn, 1) := by decide +kernel
theorem dX4_lineNamed_33 : decode cX4_lineNamed 33 = .ok (.aload_n 0, 1) := by decide +kernel
theorem dX4_lineNamed_34 : decode cX4_lineNamed 34 = .ok (.ldc 108, 2) := by decide +kernel
theorem dX4_lineNamed_36 : decode cX4_lineNamed 36 = .ok (.invokevirtual 100, 3) := by decide +kernel
theorem dX4_lineNamed_39 : decode cX4_lineNamed 39 = .ok (.ifCond .eq 7, 3) := by decide +kernel
theorem dX4_lineNamed_42 : decode cX4_lineNamed 42 = .ok (.iconst 2, 1) := by decide +kernel
theorem dX4_lineNamed_43 : decode cX4_lineNamed 43 = .ok (.goto 5, 3) := by decide +kernel
theorem dX4_lineNamed_46 : decode cX4_lineNamed 46 = .ok (.bipush (-4), 2) := by decide +kernel
theorem dX4_lineNamed_48 : decode cX4_lineNamed 48 = .ok (.ireturn, 1) := by decide +kernel
abbrev rm_X4_lineNamed : Room := { frames := 5, cells := 0, slots := 0, locals := 107 }
theorem m_X4_lineNamed (l : Launch) (O : oa_O) (t : Nat → Nat) (h : Nat → Nat) (T : oa_I2) (V : oa_I2)  (res : Int32) (hf : f_X4_lineNamed T V = some res) : oa_M l yX4_lineNamed cX4_lineNamed 1 (some .int) rm_X4_lineNamed O [.ref (t 0)] (wd_T O t h T V) (some (.int res)) (fun W1 => W1 = wd_T O t h T V) := by
  refine oa_Mof (by decide) (Nat.le_of_ble_eq_true rfl) (fun G A hl C => ?_)
  subst hl
  have C : oa_C G cX4_lineNamed 1 RX4 (some .int) rm_X4_lineNamed O A := C
  have hf : f_X4_lineNamed T V = some res := hf
  delta f_X4_lineNamed at hf
  show ww G 1 O A (oa_Q G O A (0, 0) (some (.int res)) (fun W1 => W1 = wd_T O t h T V)) (0, 0) 0 [(0, .ref (t 0))] [] (wd_T O t h T V)
  refine ww_aload_n (pc := 0) (i := 0) C 0 dX4_lineNamed_0 rfl rfl ?_
  refine ww_ldcS (pc := 1) (k := 0) C (by decide) rfl dX4_lineNamed_1 ?_
  obtain ⟨y1, e2, hf⟩ := oa_bind hf
  refine ww_callV (pc := 3) (As := [.ref (O.2.1 0)]) (rest := []) (wd := wd_T O t h T V) (ws' := wd_T O t h T V) (rv := (some (.int y1))) C hY_X4_isName hV_X4_isName lk_X4_100 (m_X4_isName _ O t h (by decide) T V _ e2) [0, 1, 2, 3, 4, 5, 6, 7] 0 rfl rfl rfl rfl rfl (oa_putS _ _ _ rfl) (fun _ h => h) ⟨rfl, rfl⟩ ⟨Nat.zero_le _, Nat.zero_le _⟩ ⟨Nat.le_of_ble_eq_true rfl, Nat.le_of_ble_eq_true rfl⟩ rfl (Nat.le_of_ble_eq_true rfl) rfl rfl dX4_lineNamed_3 ?_
  refine ww_if_eq (pc := 6) (tgt := 11) C dX4_lineNamed_6 (by decide) (fun c4 => ?_) (fun c4 => ?_)
  · have hf := oa_ifp c4 hf
    refine ww_aload_n (pc := 11) (i := 0) C 0 dX4_lineNamed_11 rfl rfl ?_
    refine ww_ldcS (pc := 12) (k := 1) C (by decide) rfl dX4_lineNamed_12 ?_
    obtain ⟨y5, e6, hf⟩ := oa_bind hf
    refine ww_callV (pc := 14) (As := [.ref (O.2.1 1)]) (rest := []) (wd := wd_T O t h T V) (ws' := wd_T O t h T V) (rv := (some (.int y5))) C hY_X4_isName hV_X4_isName lk_X4_100 (m_X4_isName _ O t h (by decide) T V _ e6) [0, 1, 2, 3, 4, 5, 6, 7] 0 rfl rfl rfl rfl rfl (oa_putS _ _ _ rfl) (fun _ h => h) ⟨rfl, rfl⟩ ⟨Nat.zero_le _, Nat.zero_le _⟩ ⟨Nat.le_of_ble_eq_true rfl, Nat.le_of_ble_eq_true rfl⟩ rfl (Nat.le_of_ble_eq_true rfl) rfl rfl dX4_lineNamed_14 ?_
    refine ww_if_eq (pc := 17) (tgt := 22) C dX4_lineNamed_17 (by decide) (fun c8 => ?_) (fun c8 => ?_)
    · have hf := oa_ifp c8 hf
      refine ww_aload_n (pc := 22) (i := 0) C 0 dX4_lineNamed_22 rfl rfl ?_
      refine ww_ldcS (pc := 23) (k := 2) C (by decide) rfl dX4_lineNamed_23 ?_
      obtain ⟨y9, e10, hf⟩ := oa_bind hf
      refine ww_callV (pc := 25) (As := [.ref (O.2.1 2)]) (rest := []) (wd := wd_T O t h T V) (ws' := wd_T O t h T V) (rv := (some (.int y9))) C hY_X4_isName hV_X4_isName lk_X4_100 (m_X4_isName _ O t h (by decide) T V _ e10) [0, 1, 2, 3, 4, 5, 6, 7] 0 rfl rfl rfl rfl rfl (oa_putS _ _ _ rfl) (fun _ h => h) ⟨rfl, rfl⟩ ⟨Nat.zero_le _, Nat.zero_le _⟩ ⟨Nat.le_of_ble_eq_true rfl, Nat.le_of_ble_eq_true rfl⟩ rfl (Nat.le_of_ble_eq_true rfl) rfl rfl dX4_lineNamed_25 ?_
      refine ww_if_eq (pc := 28) (tgt := 33) C dX4_lineNamed_28 (by decide) (fun c12 => ?_) (fun c12 => ?_)
      · have hf := oa_ifp c12 hf
        refine ww_aload_n (pc := 33) (i := 0) C 0 dX4_lineNamed_33 rfl rfl ?_
        refine ww_ldcS (pc := 34) (k := 3) C (by decide) rfl dX4_lineNamed_34 ?_
        obtain ⟨y13, e14, hf⟩ := oa_bind hf
        refine ww_callV (pc := 36) (As := [.ref (O.2.1 3)]) (rest := []) (wd := wd_T O t h T V) (ws' := wd_T O t h T V) (rv := (some (.int y13))) C hY_X4_isName hV_X4_isName lk_X4_100 (m_X4_isName _ O t h (by decide) T V _ e14) [0, 1, 2, 3, 4, 5, 6, 7] 0 rfl rfl rfl rfl rfl (oa_putS _ _ _ rfl) (fun _ h => h) ⟨rfl, rfl⟩ ⟨Nat.zero_le _, Nat.zero_le _⟩ ⟨Nat.le_of_ble_eq_true rfl, Nat.le_of_ble_eq_true rfl⟩ rfl (Nat.le_of_ble_eq_true rfl) rfl rfl dX4_lineNamed_36 ?_
        refine ww_if_eq (pc := 39) (tgt := 46) C dX4_lineNamed_39 (by decide) (fun c16 => ?_) (fun c16 => ?_)
        · have hf := oa_ifp c16 hf
          refine ww_bipush (pc := 46) C dX4_lineNamed_46 kb_m4 ?_
          obtain rfl := Option.some.inj hf
          exact ww_iret (pc := 48) C rfl dX4_lineNamed_48
        · have hf := oa_ifn c16 hf
          refine ww_iconst (pc := 42) C dX4_lineNamed_42 kc_2 ?_
          refine ww_goto (pc := 43) (tgt := 48) C dX4_lineNamed_43 (by decide) ?_
          obtain rfl := Option.some.inj hf
          exact ww_iret (pc := 48) C rfl dX4_lineNamed_48
      · have hf := oa_ifn c12 hf
        refine ww_iconst (pc := 31) C dX4_lineNamed_31 kc_1 ?_
        obtain rfl := Option.some.inj hf
        exact ww_iret (pc := 32) C rfl dX4_lineNamed_32
    · have hf := oa_ifn c8 hf
      refine ww_iconst (pc := 20) C dX4_lineNamed_20 kc_0 ?_
      obtain rfl := Option.some.inj hf
      exact ww_iret (pc := 21) C rfl dX4_lineNamed_21
  · have hf := oa_ifn c4 hf
    refine ww_iconst (pc := 9) C dX4_lineNamed_9 kc_3 ?_
    obtain rfl := Option.some.inj hf
    exact ww_iret (pc := 10) C rfl dX4_lineNamed_10
theorem dX4_misplaced_0 : decode cX4_misplaced 0 = .ok (.aload_n 0, 1) := by decide +kernel
theorem dX4_misplaced_1 : decode cX4_misplaced 1 = .ok (.iconst 2, 1) := by decide +kernel
theorem dX4_misplaced_2 : decode cX4_misplaced 2 = .ok (.aload_n 0, 1) := by decide +kernel
theorem dX4_misplaced_3 : decode cX4_misplaced 3 = .ok (.getfield 72, 3) := by decide +kernel
theorem dX4_misplaced_6 : decode cX4_misplaced 6 = .ok (.invokevirtual 79, 3) := by decide +kernel
theorem dX4_misplaced_9 : decode cX4_misplaced 9 = .ok (.ireturn, 1) := by decide +kernel
abbrev rm_X4_misplaced : Room := { frames := 1, cells := 0, slots := 0, locals := 22 }
theorem m_X4_misplaced (l : Launch) (O : oa_O) (t : Nat → Nat) (h : Nat → Nat) (T : oa_I2) (V : oa_I2)  (res : Int32 × oa_I2) (hf : f_X4_misplaced T V = some res) : oa_M l yX4_misplaced cX4_misplaced 1 (some .boolean) rm_X4_misplaced O [.ref (t 0)] (wd_T O t h T V) (some (.int res.1)) (fun W1 => W1 = wd_T O t h res.2 V) := by
  refine oa_Mof (by decide) (Nat.le_of_ble_eq_true rfl) (fun G A hl C => ?_)
  subst hl
  have C : oa_C G cX4_misplaced 1 RX4 (some .boolean) rm_X4_misplaced O A := C
  have hf : f_X4_misplaced T V = some res := hf
  delta f_X4_misplaced at hf
  show ww G 1 O A (oa_Q G O A (0, 0) (some (.int res.1)) (fun W1 => W1 = wd_T O t h res.2 V)) (0, 0) 0 [(0, .ref (t 0))] [] (wd_T O t h T V)
  refine ww_aload_n (pc := 0) (i := 0) C 0 dX4_misplaced_0 rfl rfl ?_
  refine ww_iconst (pc := 1) C dX4_misplaced_1 kc_2 ?_
  refine ww_aload_n (pc := 2) (i := 0) C 0 dX4_misplaced_2 rfl rfl ?_
  refine ww_get (pc := 3) C fl_X4_72 0 rfl rfl dX4_misplaced_3 ?_
  obtain ⟨y1, T2, e3, hf⟩ := oa_bind2 hf
  refine ww_callV (pc := 6) (As := [.int 2, .int (T 1 6)]) (rest := []) (wd := wd_T O t h T2 V) (ws' := wd_T O t h T2 V) (rv := (some (.int y1))) C hY_X4_fail hV_X4_fail lk_X4_79 (m_X4_fail _ O t h T V 2 (T 1 6) _ e3) [0, 1, 2, 3, 4, 5, 6, 7] 0 rfl rfl rfl rfl rfl rfl (fun _ h => h) ⟨rfl, rfl⟩ ⟨Nat.zero_le _, Nat.zero_le _⟩ ⟨Nat.le_of_ble_eq_true rfl, Nat.le_of_ble_eq_true rfl⟩ rfl (Nat.le_of_ble_eq_true rfl) rfl rfl dX4_misplaced_6 ?_
  obtain ⟨z5, e6, hf⟩ := oa_bind hf
  have e6 := oa_zc_some e6
  refine ww_topi C e6.1 ?_
  obtain rfl := Option.some.inj hf
  exact ww_zret (pc := 9) C e6.2 rfl dX4_misplaced_9
theorem dX4_noteWith_0 : decode cX4_noteWith 0 = .ok (.iload_n 2, 1) := by decide +kernel
theorem dX4_noteWith_1 : decode cX4_noteWith 1 = .ok (.tableswitch 76 0 2 #[27, 44, 61], 27) := by decide +kernel
theorem dX4_noteWith_28 : decode cX4_noteWith 28 = .ok (.aload_n 0, 1) := by decide +kernel
theorem dX4_noteWith_29 : decode cX4_noteWith 29 = .ok (.getfield 18, 3) := by decide +kernel
theorem dX4_noteWith_32 : decode cX4_noteWith 32 = .ok (.bipush 6, 2) := by decide +kernel
theorem dX4_noteWith_34 : decode cX4_noteWith 34 = .ok (.iload_n 1, 1) := by decide +kernel
theorem dX4_noteWith_35 : decode cX4_noteWith 35 = .ok (.aload_n 0, 1) := by decide +kernel
theorem dX4_noteWith_36 : decode cX4_noteWith 36 = .ok (.getfield 95, 3) := by decide +kernel
theorem dX4_noteWith_39 : decode cX4_noteWith 39 = .ok (.invokevirtual 131, 3) := by decide +kernel
theorem dX4_noteWith_42 : decode cX4_noteWith 42 = .ok (.goto 45, 3) := by decide +kernel
theorem dX4_noteWith_45 : decode cX4_noteWith 45 = .ok (.aload_n 0, 1) := by decide +kernel
theorem dX4_noteWith_46 : decode cX4_noteWith 46 = .ok (.getfield 18, 3) := by decide +kernel
theorem dX4_noteWith_49 : decode cX4_noteWith 49 = .ok (.bipush 7, 2) := by decide +kernel
theorem dX4_noteWith_51 : decode cX4_noteWith 51 = .ok (.iload_n 1, 1) := by decide +kernel
theorem dX4_noteWith_52 : decode cX4_noteWith 52 = .ok (.aload_n 0, 1) := by decide +kernel
theorem dX4_noteWith_53 : decode cX4_noteWith 53 = .ok (.getfield 95, 3) := by decide +kernel
theorem dX4_noteWith_56 : decode cX4_noteWith 56 = .ok (.invokevirtual 131, 3) := by decide +kernel
theorem dX4_noteWith_59 : decode cX4_noteWith 59 = .ok (.goto 28, 3) := by decide +kernel
theorem dX4_noteWith_62 : decode cX4_noteWith 62 = .ok (.aload_n 0, 1) := by decide +kernel
theorem dX4_noteWith_63 : decode cX4_noteWith 63 = .ok (.getfield 18, 3) := by decide +kernel
theorem dX4_noteWith_66 : decode cX4_noteWith 66 = .ok (.iload_n 1, 1) := by decide +kernel
theorem dX4_noteWith_67 : decode cX4_noteWith 67 = .ok (.aload_n 0, 1) := by decide +kernel
theorem dX4_noteWith_68 : decode cX4_noteWith 68 = .ok (.getfield 95, 3) := by decide +kernel
theorem dX4_noteWith_71 : decode cX4_noteWith 71 = .ok (.invokevirtual 169, 3) := by decide +kernel
theorem dX4_noteWith_74 : decode cX4_noteWith 74 = .ok (.goto 13, 3) := by decide +kernel
theorem dX4_noteWith_77 : decode cX4_noteWith 77 = .ok (.aload_n 0, 1) := by decide +kernel
theorem dX4_noteWith_78 : decode cX4_noteWith 78 = .ok (.getfield 18, 3) := by decide +kernel
theorem dX4_noteWith_81 : decode cX4_noteWith 81 = .ok (.iload_n 1, 1) := by decide +kernel
theorem dX4_noteWith_82 : decode cX4_noteWith 82 = .ok (.bipush 6, 2) := by decide +kernel
theorem dX4_noteWith_84 : decode cX4_noteWith 84 = .ok (.invokevirtual 169, 3) := by decide +kernel
theorem dX4_noteWith_87 : decode cX4_noteWith 87 = .ok (.return_, 1) := by decide +kernel
abbrev rm_X4_noteWith : Room := { frames := 1, cells := 0, slots := 0, locals := 23 }
theorem m_X4_noteWith (l : Launch) (O : oa_O) (t : Nat → Nat) (h : Nat → Nat) (T : oa_I2) (V : oa_I2) (x1 : Int32) (x2 : Int32) (res : oa_I2) (hf : f_X4_noteWith T V x1 x2 = some res) : oa_M l yX4_noteWith cX4_noteWith 3 none rm_X4_noteWith O [.ref (t 0), .int x1, .int x2] (wd_T O t h T V) none (fun W1 => W1 = wd_T O t h T res) := by
  refine oa_Mof (by decide) (Nat.le_of_ble_eq_true rfl) (fun G A hl C => ?_)
  subst hl
  have C : oa_C G cX4_noteWith 3 RX4 none rm_X4_noteWith O A := C
  have hf : f_X4_noteWith T V x1 x2 = some res := hf
  delta f_X4_noteWith at hf
  show ww G 3 O A (oa_Q G O A (0, 0) none (fun W1 => W1 = wd_T O t h T res)) (0, 0) 0 [(0, .ref (t 0)), (1, .int x1), (2, .int x2)] [] (wd_T O t h T V)
  refine ww_iload_n (pc := 0) (i := 2) C 2 dX4_noteWith_0 rfl rfl ?_
  by_cases c1 : x2 = 0
  · have hf := oa_ifp c1 hf
    refine ww_tabI (pc := 1) (tgt := 28) C dX4_noteWith_1 (by rw [c1] <;> decide) (by rw [c1] <;> decide) (by rw [c1] <;> rfl) (by decide) ?_
    refine ww_aload_n (pc := 28) (i := 0) C 0 dX4_noteWith_28 rfl rfl ?_
    refine ww_get (pc := 29) C fl_X4_18 0 rfl rfl dX4_noteWith_29 ?_
    refine ww_bipush (pc := 32) C dX4_noteWith_32 kb_6 ?_
    refine ww_iload_n (pc := 34) (i := 1) C 1 dX4_noteWith_34 rfl rfl ?_
    refine ww_aload_n (pc := 35) (i := 0) C 0 dX4_noteWith_35 rfl rfl ?_
    refine ww_get (pc := 36) C fl_X4_95 0 rfl rfl dX4_noteWith_36 ?_
    obtain ⟨V2, e3, hf⟩ := oa_bind hf
    refine ww_callV (pc := 39) (As := [.int 6, .int x1, .int (T 1 7)]) (rest := []) (wd := wd_V O h V2) (ws' := wd_T O t h T V2) (rv := none) C hY_X5_putTrait hV_X5_putTrait lk_X4_131 (m_X5_putTrait _ O h V 6 x1 (T 1 7) _ e3) [2, 3, 4, 5, 6, 7] 2 rfl rfl rfl rfl rfl rfl (fun _ h => h) ⟨rfl, rfl⟩ ⟨Nat.zero_le _, Nat.zero_le _⟩ ⟨Nat.le_of_ble_eq_true rfl, Nat.le_of_ble_eq_true rfl⟩ rfl (Nat.le_of_ble_eq_true rfl) rfl rfl dX4_noteWith_39 ?_
    refine ww_goto (pc := 42) (tgt := 87) C dX4_noteWith_42 (by decide) ?_
    obtain rfl := Option.some.inj hf
    exact ww_vret (pc := 87) C rfl dX4_noteWith_87
  have hf := oa_ifn c1 hf
  by_cases c5 : x2 = 1
  · have hf := oa_ifp c5 hf
    refine ww_tabI (pc := 1) (tgt := 45) C dX4_noteWith_1 (by rw [c5] <;> decide) (by rw [c5] <;> decide) (by rw [c5] <;> rfl) (by decide) ?_
    refine ww_aload_n (pc := 45) (i := 0) C 0 dX4_noteWith_45 rfl rfl ?_
    refine ww_get (pc := 46) C fl_X4_18 0 rfl rfl dX4_noteWith_46 ?_
    refine ww_bipush (pc := 49) C dX4_noteWith_49 kb_7 ?_
    refine ww_iload_n (pc := 51) (i := 1) C 1 dX4_noteWith_51 rfl rfl ?_
    refine ww_aload_n (pc := 52) (i := 0) C 0 dX4_noteWith_52 rfl rfl ?_
    refine ww_get (pc := 53) C fl_X4_95 0 rfl rfl dX4_noteWith_53 ?_
    obtain ⟨V6, e7, hf⟩ := oa_bind hf
    refine ww_callV (pc := 56) (As := [.int 7, .int x1, .int (T 1 7)]) (rest := []) (wd := wd_V O h V6) (ws' := wd_T O t h T V6) (rv := none) C hY_X5_putTrait hV_X5_putTrait lk_X4_131 (m_X5_putTrait _ O h V 7 x1 (T 1 7) _ e7) [2, 3, 4, 5, 6, 7] 2 rfl rfl rfl rfl rfl rfl (fun _ h => h) ⟨rfl, rfl⟩ ⟨Nat.zero_le _, Nat.zero_le _⟩ ⟨Nat.le_of_ble_eq_true rfl, Nat.le_of_ble_eq_true rfl⟩ rfl (Nat.le_of_ble_eq_true rfl) rfl rfl dX4_noteWith_56 ?_
    refine ww_goto (pc := 59) (tgt := 87) C dX4_noteWith_59 (by decide) ?_
    obtain rfl := Option.some.inj hf
    exact ww_vret (pc := 87) C rfl dX4_noteWith_87
  have hf := oa_ifn c5 hf
  by_cases c9 : x2 = 2
  · have hf := oa_ifp c9 hf
    refine ww_tabI (pc := 1) (tgt := 62) C dX4_noteWith_1 (by rw [c9] <;> decide) (by rw [c9] <;> decide) (by rw [c9] <;> rfl) (by decide) ?_
    refine ww_aload_n (pc := 62) (i := 0) C 0 dX4_noteWith_62 rfl rfl ?_
    refine ww_get (pc := 63) C fl_X4_18 0 rfl rfl dX4_noteWith_63 ?_
    refine ww_iload_n (pc := 66) (i := 1) C 1 dX4_noteWith_66 rfl rfl ?_
    refine ww_aload_n (pc := 67) (i := 0) C 0 dX4_noteWith_67 rfl rfl ?_
    refine ww_get (pc := 68) C fl_X4_95 0 rfl rfl dX4_noteWith_68 ?_
    obtain ⟨V10, e11, hf⟩ := oa_bind hf
    refine ww_callV (pc := 71) (As := [.int x1, .int (T 1 7)]) (rest := []) (wd := wd_V O h V10) (ws' := wd_T O t h T V10) (rv := none) C hY_X5_start hV_X5_start lk_X4_169 (m_X5_start _ O h V x1 (T 1 7) _ e11) [2, 3, 4, 5, 6, 7] 2 rfl rfl rfl rfl rfl rfl (fun _ h => h) ⟨rfl, rfl⟩ ⟨Nat.zero_le _, Nat.zero_le _⟩ ⟨Nat.le_of_ble_eq_true rfl, Nat.le_of_ble_eq_true rfl⟩ rfl (Nat.le_of_ble_eq_true rfl) rfl rfl dX4_noteWith_71 ?_
    refine ww_goto (pc := 74) (tgt := 87) C dX4_noteWith_74 (by decide) ?_
    obtain rfl := Option.some.inj hf
    exact ww_vret (pc := 87) C rfl dX4_noteWith_87
  have hf := oa_ifn c9 hf
  refine ww_tabO (pc := 1) (tgt := 77) C dX4_noteWith_1 (to_0_2 c1 c5 c9) (by decide) ?_
  refine ww_aload_n (pc := 77) (i := 0) C 0 dX4_noteWith_77 rfl rfl ?_
  refine ww_get (pc := 78) C fl_X4_18 0 rfl rfl dX4_noteWith_78 ?_
  refine ww_iload_n (pc := 81) (i := 1) C 1 dX4_noteWith_81 rfl rfl ?_
  refine ww_bipush (pc := 82) C dX4_noteWith_82 kb_6 ?_
  obtain ⟨V13, e14, hf⟩ := oa_bind hf
  refine ww_callV (pc := 84) (As := [.int x1, .int 6]) (rest := []) (wd := wd_V O h V13) (ws' := wd_T O t h T V13) (rv := none) C hY_X5_start hV_X5_start lk_X4_169 (m_X5_start _ O h V x1 6 _ e14) [2, 3, 4, 5, 6, 7] 2 rfl rfl rfl rfl rfl rfl (fun _ h => h) ⟨rfl, rfl⟩ ⟨Nat.zero_le _, Nat.zero_le _⟩ ⟨Nat.le_of_ble_eq_true rfl, Nat.le_of_ble_eq_true rfl⟩ rfl (Nat.le_of_ble_eq_true rfl) rfl rfl dX4_noteWith_84 ?_
  obtain rfl := Option.some.inj hf
  exact ww_vret (pc := 87) C rfl dX4_noteWith_87
theorem dX4_sortNamed_0 : decode cX4_sortNamed 0 = .ok (.aload_n 0, 1) := by decide +kernel
theorem dX4_sortNamed_1 : decode cX4_sortNamed 1 = .ok (.ldc 144, 2) := by decide +kernel
theorem dX4_sortNamed_3 : decode cX4_sortNamed 3 = .ok (.invokevirtual 100, 3) := by decide +kernel
theorem dX4_sortNamed_6 : decode cX4_sortNamed 6 = .ok (.ifCond .eq 5, 3) := by decide +kernel
theorem dX4_sortNamed_9 : decode cX4_sortNamed 9 = .ok (.iconst 0, 1) := by decide +kernel
theorem dX4_sortNamed_10 : decode cX4_sortNamed 10 = .ok (.ireturn, 1) := by decide +kernel
theorem dX4_sortNamed_11 : decode cX4_sortNamed 11 = .ok (.aload_n 0, 1) := by decide +kernel
theorem dX4_sortNamed_12 : decode cX4_sortNamed 12 = .ok (.ldc 146, 2) := by decide +kernel
theorem dX4_sortNamed_14 : decode cX4_sortNamed 14 = .ok (.invokevirtual 100, 3) := by decide +kernel
theorem dX4_sortNamed_17 : decode cX4_sortNamed 17 = .ok (.ifCond .eq 5, 3) := by decide +kernel
theorem dX4_sortNamed_20 : decode cX4_sortNamed 20 = .ok (.iconst 1, 1) := by decide +kernel
theorem dX4_sortNamed_21 : decode cX4_sortNamed 21 = .ok (.ireturn, 1) := by decide +kernel
theorem dX4_sortNamed_22 : decode cX4_sortNamed 22 = .ok (.aload_n 0, 1) := by decide +kernel
theorem dX4_sortNamed_23 : decode cX4_sortNamed 23 = .ok (.ldc 148, 2) := by decide +kernel
theorem dX4_sortNamed_25 : decode cX4_sortNamed 25 = .ok (.invokevirtual 100, 3) := by decide +kernel
theorem dX4_sortNamed_28 : decode cX4_sortNamed 28 = .ok (.ifCond .eq 5, 3) := by decide +kernel
theorem dX4_sortNamed_31 : decode cX4_sortNamed 31 = .ok (.iconst 2, 1) := by decide +kernel
theorem dX4_sortNamed_32 : decode cX4_sortNamed 32 = .ok (.ireturn, 1) := by decide +kernel
theorem dX4_sortNamed_33 : decode cX4_sortNamed 33 = .ok (.aload_n 0, 1) := by decide +kernel
theorem dX4_sortNamed_34 : decode cX4_sortNamed 34 = .ok (.ldc 150, 2) := by decide +kernel
theorem dX4_sortNamed_36 : decode cX4_sortNamed 36 = .ok (.invokevirtual 100, 3) := by decide +kernel
theorem dX4_sortNamed_39 : decode cX4_sortNamed 39 = .ok (.ifCond .eq 5, 3) := by decide +kernel
theorem dX4_sortNamed_42 : decode cX4_sortNamed 42 = .ok (.iconst 3, 1) := by decide +kernel
theorem dX4_sortNamed_43 : decode cX4_sortNamed 43 = .ok (.ireturn, 1) := by decide +kernel
theorem dX4_sortNamed_44 : decode cX4_sortNamed 44 = .ok (.aload_n 0, 1) := by decide +kernel
theorem dX4_sortNamed_45 : decode cX4_sortNamed 45 = .ok (.ldc 152, 2) := by decide +kernel
theorem dX4_sortNamed_47 : decode cX4_sortNamed 47 = .ok (.invokevirtual 100, 3) := by decide +kernel
theorem dX4_sortNamed_50 : decode cX4_sortNamed 50 = .ok (.ifCond .eq 7, 3) := by decide +kernel
theorem dX4_sortNamed_53 : decode cX4_sortNamed 53 = .ok (.iconst 4, 1) := by decide +kernel
theorem dX4_sortNamed_54 : decode cX4_sortNamed 54 = .ok (.goto 5, 3) := by decide +kernel
theorem dX4_sortNamed_57 : decode cX4_sortNamed 57 = .ok (.bipush (-4), 2) := by decide +kernel
theorem dX4_sortNamed_59 : decode cX4_sortNamed 59 = .ok (.ireturn, 1) := by decide +kernel
abbrev rm_X4_sortNamed : Room := { frames := 5, cells := 0, slots := 0, locals := 107 }
theorem m_X4_sortNamed (l : Launch) (O : oa_O) (t : Nat → Nat) (h : Nat → Nat) (T : oa_I2) (V : oa_I2)  (res : Int32) (hf : f_X4_sortNamed T V = some res) : oa_M l yX4_sortNamed cX4_sortNamed 1 (some .int) rm_X4_sortNamed O [.ref (t 0)] (wd_T O t h T V) (some (.int res)) (fun W1 => W1 = wd_T O t h T V) := by
  refine oa_Mof (by decide) (Nat.le_of_ble_eq_true rfl) (fun G A hl C => ?_)
  subst hl
  have C : oa_C G cX4_sortNamed 1 RX4 (some .int) rm_X4_sortNamed O A := C
  have hf : f_X4_sortNamed T V = some res := hf
  delta f_X4_sortNamed at hf
  show ww G 1 O A (oa_Q G O A (0, 0) (some (.int res)) (fun W1 => W1 = wd_T O t h T V)) (0, 0) 0 [(0, .ref (t 0))] [] (wd_T O t h T V)
  refine ww_aload_n (pc := 0) (i := 0) C 0 dX4_sortNamed_0 rfl rfl ?_
  refine ww_ldcS (pc := 1) (k := 4) C (by decide) rfl dX4_sortNamed_1 ?_
  obtain ⟨y1, e2, hf⟩ := oa_bind hf
  refine ww_callV (pc := 3) (As := [.ref (O.2.1 4)]) (rest := []) (wd := wd_T O t h T V) (ws' := wd_T O t h T V) (rv := (some (.int y1))) C hY_X4_isName hV_X4_isName lk_X4_100 (m_X4_isName _ O t h (by decide) T V _ e2) [0, 1, 2, 3, 4, 5, 6, 7] 0 rfl rfl rfl rfl rfl (oa_putS _ _ _ rfl) (fun _ h => h) ⟨rfl, rfl⟩ ⟨Nat.zero_le _, Nat.zero_le _⟩ ⟨Nat.le_of_ble_eq_true rfl, Nat.le_of_ble_eq_true rfl⟩ rfl (Nat.le_of_ble_eq_true rfl) rfl rfl dX4_sortNamed_3 ?_
  refine ww_if_eq (pc := 6) (tgt := 11) C dX4_sortNamed_6 (by decide) (fun c4 => ?_) (fun c4 => ?_)
  · have hf := oa_ifp c4 hf
    refine ww_aload_n (pc := 11) (i := 0) C 0 dX4_sortNamed_11 rfl rfl ?_
    refine ww_ldcS (pc := 12) (k := 5) C (by decide) rfl dX4_sortNamed_12 ?_
    obtain ⟨y5, e6, hf⟩ := oa_bind hf
    refine ww_callV (pc := 14) (As := [.ref (O.2.1 5)]) (rest := []) (wd := wd_T O t h T V) (ws' := wd_T O t h T V) (rv := (some (.int y5))) C hY_X4_isName hV_X4_isName lk_X4_100 (m_X4_isName _ O t h (by decide) T V _ e6) [0, 1, 2, 3, 4, 5, 6, 7] 0 rfl rfl rfl rfl rfl (oa_putS _ _ _ rfl) (fun _ h => h) ⟨rfl, rfl⟩ ⟨Nat.zero_le _, Nat.zero_le _⟩ ⟨Nat.le_of_ble_eq_true rfl, Nat.le_of_ble_eq_true rfl⟩ rfl (Nat.le_of_ble_eq_true rfl) rfl rfl dX4_sortNamed_14 ?_
    refine ww_if_eq (pc := 17) (tgt := 22) C dX4_sortNamed_17 (by decide) (fun c8 => ?_) (fun c8 => ?_)
    · have hf := oa_ifp c8 hf
      refine ww_aload_n (pc := 22) (i := 0) C 0 dX4_sortNamed_22 rfl rfl ?_
      refine ww_ldcS (pc := 23) (k := 6) C (by decide) rfl dX4_sortNamed_23 ?_
      obtain ⟨y9, e10, hf⟩ := oa_bind hf
      refine ww_callV (pc := 25) (As := [.ref (O.2.1 6)]) (rest := []) (wd := wd_T O t h T V) (ws' := wd_T O t h T V) (rv := (some (.int y9))) C hY_X4_isName hV_X4_isName lk_X4_100 (m_X4_isName _ O t h (by decide) T V _ e10) [0, 1, 2, 3, 4, 5, 6, 7] 0 rfl rfl rfl rfl rfl (oa_putS _ _ _ rfl) (fun _ h => h) ⟨rfl, rfl⟩ ⟨Nat.zero_le _, Nat.zero_le _⟩ ⟨Nat.le_of_ble_eq_true rfl, Nat.le_of_ble_eq_true rfl⟩ rfl (Nat.le_of_ble_eq_true rfl) rfl rfl dX4_sortNamed_25 ?_
      refine ww_if_eq (pc := 28) (tgt := 33) C dX4_sortNamed_28 (by decide) (fun c12 => ?_) (fun c12 => ?_)
      · have hf := oa_ifp c12 hf
        refine ww_aload_n (pc := 33) (i := 0) C 0 dX4_sortNamed_33 rfl rfl ?_
        refine ww_ldcS (pc := 34) (k := 7) C (by decide) rfl dX4_sortNamed_34 ?_
        obtain ⟨y13, e14, hf⟩ := oa_bind hf
        refine ww_callV (pc := 36) (As := [.ref (O.2.1 7)]) (rest := []) (wd := wd_T O t h T V) (ws' := wd_T O t h T V) (rv := (some (.int y13))) C hY_X4_isName hV_X4_isName lk_X4_100 (m_X4_isName _ O t h (by decide) T V _ e14) [0, 1, 2, 3, 4, 5, 6, 7] 0 rfl rfl rfl rfl rfl (oa_putS _ _ _ rfl) (fun _ h => h) ⟨rfl, rfl⟩ ⟨Nat.zero_le _, Nat.zero_le _⟩ ⟨Nat.le_of_ble_eq_true rfl, Nat.le_of_ble_eq_true rfl⟩ rfl (Nat.le_of_ble_eq_true rfl) rfl rfl dX4_sortNamed_36 ?_
        refine ww_if_eq (pc := 39) (tgt := 44) C dX4_sortNamed_39 (by decide) (fun c16 => ?_) (fun c16 => ?_)
        · have hf := oa_ifp c16 hf
          refine ww_aload_n (pc := 44) (i := 0) C 0 dX4_sortNamed_44 rfl rfl ?_
          refine ww_ldcS (pc := 45) (k := 8) C (by decide) rfl dX4_sortNamed_45 ?_
          obtain ⟨y17, e18, hf⟩ := oa_bind hf
          refine ww_callV (pc := 47) (As := [.ref (O.2.1 8)]) (rest := []) (wd := wd_T O t h T V) (ws' := wd_T O t h T V) (rv := (some (.int y17))) C hY_X4_isName hV_X4_isName lk_X4_100 (m_X4_isName _ O t h (by decide) T V _ e18) [0, 1, 2, 3, 4, 5, 6, 7] 0 rfl rfl rfl rfl rfl (oa_putS _ _ _ rfl) (fun _ h => h) ⟨rfl, rfl⟩ ⟨Nat.zero_le _, Nat.zero_le _⟩ ⟨Nat.le_of_ble_eq_true rfl, Nat.le_of_ble_eq_true rfl⟩ rfl (Nat.le_of_ble_eq_true rfl) rfl rfl dX4_sortNamed_47 ?_
          refine ww_if_eq (pc := 50) (tgt := 57) C dX4_sortNamed_50 (by decide) (fun c20 => ?_) (fun c20 => ?_)
          · have hf := oa_ifp c20 hf
            refine ww_bipush (pc := 57) C dX4_sortNamed_57 kb_m4 ?_
            obtain rfl := Option.some.inj hf
            exact ww_iret (pc := 59) C rfl dX4_sortNamed_59
          · have hf := oa_ifn c20 hf
            refine ww_iconst (pc := 53) C dX4_sortNamed_53 kc_4 ?_
            refine ww_goto (pc := 54) (tgt := 59) C dX4_sortNamed_54 (by decide) ?_
            obtain rfl := Option.some.inj hf
            exact ww_iret (pc := 59) C rfl dX4_sortNamed_59
        · have hf := oa_ifn c16 hf
          refine ww_iconst (pc := 42) C dX4_sortNamed_42 kc_3 ?_
          obtain rfl := Option.some.inj hf
          exact ww_iret (pc := 43) C rfl dX4_sortNamed_43
      · have hf := oa_ifn c12 hf
        refine ww_iconst (pc := 31) C dX4_sortNamed_31 kc_2 ?_
        obtain rfl := Option.some.inj hf
        exact ww_iret (pc := 32) C rfl dX4_sortNamed_32
    · have hf := oa_ifn c8 hf
      refine ww_iconst (pc := 20) C dX4_sortNamed_20 kc_1 ?_
      obtain rfl := Option.some.inj hf
      exact ww_iret (pc := 21) C rfl dX4_sortNamed_21
  · have hf := oa_ifn c4 hf
    refine ww_iconst (pc := 9) C dX4_sortNamed_9 kc_0 ?_
    obtain rfl := Option.some.inj hf
    exact ww_iret (pc := 10) C rfl dX4_sortNamed_10
theorem dX4_takeClosing_0 : decode cX4_takeClosing 0 = .ok (.aload_n 0, 1) := by decide +kernel
theorem dX4_takeClosing_1 : decode cX4_takeClosing 1 = .ok (.getfield 49, 3) := by decide +kernel
theorem dX4_takeClosing_4 : decode cX4_takeClosing 4 = .ok (.iconst 3, 1) := by decide +kernel
theorem dX4_takeClosing_5 : decode cX4_takeClosing 5 = .ok (.if_icmp .eq 8, 3) := by decide +kernel
theorem dX4_takeClosing_8 : decode cX4_takeClosing 8 = .ok (.aload_n 0, 1) := by decide +kernel
theorem dX4_takeClosing_9 : decode cX4_takeClosing 9 = .ok (.invokevirtual 56, 3) := by decide +kernel
theorem dX4_takeClosing_12 : decode cX4_takeClosing 12 = .ok (.ireturn, 1) := by decide +kernel
theorem dX4_takeClosing_13 : decode cX4_takeClosing 13 = .ok (.aload_n 0, 1) := by decide +kernel
theorem dX4_takeClosing_14 : decode cX4_takeClosing 14 = .ok (.dup, 1) := by decide +kernel
theorem dX4_takeClosing_15 : decode cX4_takeClosing 15 = .ok (.getfield 36, 3) := by decide +kernel
theorem dX4_takeClosing_18 : decode cX4_takeClosing 18 = .ok (.iconst 1, 1) := by decide +kernel
theorem dX4_takeClosing_19 : decode cX4_takeClosing 19 = .ok (.iadd, 1) := by decide +kernel
theorem dX4_takeClosing_20 : decode cX4_takeClosing 20 = .ok (.putfield 36, 3) := by decide +kernel
theorem dX4_takeClosing_23 : decode cX4_takeClosing 23 = .ok (.aload_n 0, 1) := by decide +kernel
theorem dX4_takeClosing_24 : decode cX4_takeClosing 24 = .ok (.invokevirtual 45, 3) := by decide +kernel
theorem dX4_takeClosing_27 : decode cX4_takeClosing 27 = .ok (.ireturn, 1) := by decide +kernel
abbrev rm_X4_takeClosing : Room := { frames := 2, cells := 0, slots := 0, locals := 42 }
theorem m_X4_takeClosing (l : Launch) (O : oa_O) (t : Nat → Nat) (h : Nat → Nat) (T : oa_I2) (V : oa_I2)  (res : Int32 × oa_I2) (hf : f_X4_takeClosing T V = some res) : oa_M l yX4_takeClosing cX4_takeClosing 1 (some .boolean) rm_X4_takeClosing O [.ref (t 0)] (wd_T O t h T V) (some (.int res.1)) (fun W1 => W1 = wd_T O t h res.2 V) := by
  refine oa_Mof (by decide) (Nat.le_of_ble_eq_true rfl) (fun G A hl C => ?_)
  subst hl
  have C : oa_C G cX4_takeClosing 1 RX4 (some .boolean) rm_X4_takeClosing O A := C
  have hf : f_X4_takeClosing T V = some res := hf
  delta f_X4_takeClosing at hf
  show ww G 1 O A (oa_Q G O A (0, 0) (some (.int res.1)) (fun W1 => W1 = wd_T O t h res.2 V)) (0, 0) 0 [(0, .ref (t 0))] [] (wd_T O t h T V)
  refine ww_aload_n (pc := 0) (i := 0) C 0 dX4_takeClosing_0 rfl rfl ?_
  refine ww_get (pc := 1) C fl_X4_49 0 rfl rfl dX4_takeClosing_1 ?_
  refine ww_iconst (pc := 4) C dX4_takeClosing_4 kc_3 ?_
  refine ww_icmp_eq (pc := 5) (tgt := 13) C dX4_takeClosing_5 (by decide) (fun c1 => ?_) (fun c1 => ?_)
  · have hf := oa_ifp c1 hf
    refine ww_aload_n (pc := 13) (i := 0) C 0 dX4_takeClosing_13 rfl rfl ?_
    refine ww_dup (pc := 14) C dX4_takeClosing_14 rfl ?_
    refine ww_get (pc := 15) C fl_X4_36 0 rfl rfl dX4_takeClosing_15 ?_
    refine ww_iconst (pc := 18) C dX4_takeClosing_18 kc_1 ?_
    refine ww_iadd (pc := 19) C dX4_takeClosing_19 ?_
    obtain ⟨T2, e3, hf⟩ := oa_letE hf
    refine ww_put (pc := 20) C fl_X4_36 (fun Z => wd_T O t h Z V) 0 rfl rfl rfl (Nat.le_of_ble_eq_true rfl) e3 rfl dX4_takeClosing_20 ?_
    refine ww_aload_n (pc := 23) (i := 0) C 0 dX4_takeClosing_23 rfl rfl ?_
    obtain ⟨y4, T5, e6, hf⟩ := oa_bind2 hf
    refine ww_callV (pc := 24) (As := []) (rest := []) (wd := wd_T O t h T5 V) (ws' := wd_T O t h T5 V) (rv := (some (.int y4))) C hY_X4_advance hV_X4_advance lk_X4_45 (m_X4_advance _ O t h T2 V _ e6) [0, 1, 2, 3, 4, 5, 6, 7] 0 rfl rfl rfl rfl rfl rfl (fun _ h => h) ⟨rfl, rfl⟩ ⟨Nat.zero_le _, Nat.zero_le _⟩ ⟨Nat.le_of_ble_eq_true rfl, Nat.le_of_ble_eq_true rfl⟩ rfl (Nat.le_of_ble_eq_true rfl) rfl rfl dX4_takeClosing_24 ?_
    obtain ⟨z8, e9, hf⟩ := oa_bind hf
    have e9 := oa_zc_some e9
    refine ww_topi C e9.1 ?_
    obtain rfl := Option.some.inj hf
    exact ww_zret (pc := 27) C e9.2 rfl dX4_takeClosing_27
  · have hf := oa_ifn c1 hf
    refine ww_aload_n (pc := 8) (i := 0) C 0 dX4_takeClosing_8 rfl rfl ?_
    obtain ⟨y10, T11, e12, hf⟩ := oa_bind2 hf
    refine ww_callV (pc := 9) (As := []) (rest := []) (wd := wd_T O t h T11 V) (ws' := wd_T O t h T11 V) (rv := (some (.int y10))) C hY_X4_misplaced hV_X4_misplaced lk_X4_56 (m_X4_misplaced _ O t h T V _ e12) [0, 1, 2, 3, 4, 5, 6, 7] 0 rfl rfl rfl rfl rfl rfl (fun _ h => h) ⟨rfl, rfl⟩ ⟨Nat.zero_le _, Nat.zero_le _⟩ ⟨Nat.le_of_ble_eq_true rfl, Nat.le_of_ble_eq_true rfl⟩ rfl (Nat.le_of_ble_eq_true rfl) rfl rfl dX4_takeClosing_9 ?_
    obtain ⟨z14, e15, hf⟩ := oa_bind hf
    have e15 := oa_zc_some e15
    refine ww_topi C e15.1 ?_
    obtain rfl := Option.some.inj hf
    exact ww_zret (pc := 12) C e15.2 rfl dX4_takeClosing_12
theorem dX4_valueOfToken_0 : decode cX4_valueOfToken 0 = .ok (.iconst 0, 1) := by decide +kernel
theorem dX4_valueOfToken_1 : decode cX4_valueOfToken 1 = .ok (.istore_n 1, 1) := by decide +kernel
theorem dX4_valueOfToken_2 : decode cX4_valueOfToken 2 = .ok (.aload_n 0, 1) := by decide +kernel
theorem dX4_valueOfToken_3 : decode cX4_valueOfToken 3 = .ok (.getfield 72, 3) := by decide +kernel
theorem dX4_valueOfToken_6 : decode cX4_valueOfToken 6 = .ok (.istore_n 2, 1) := by decide +kernel
theorem dX4_valueOfToken_7 : decode cX4_valueOfToken 7 = .ok (.iload_n 2, 1) := by decide +kernel
theorem dX4_valueOfToken_8 : decode cX4_valueOfToken 8 = .ok (.aload_n 0, 1) := by decide +kernel
theorem dX4_valueOfToken_9 : decode cX4_valueOfToken 9 = .ok (.getfield 39, 3) := by decide +kernel
theorem dX4_valueOfToken_12 : decode cX4_valueOfToken 12 = .ok (.if_icmp .ge 24, 3) := by decide +kernel
theorem dX4_valueOfToken_15 : decode cX4_valueOfToken 15 = .ok (.iload_n 1, 1) := by decide +kernel
theorem dX4_valueOfToken_16 : decode cX4_valueOfToken 16 = .ok (.bipush 10, 2) := by decide +kernel
theorem dX4_valueOfToken_18 : decode cX4_valueOfToken 18 = .ok (.imul, 1) := by decide +kernel
theorem dX4_valueOfToken_19 : decode cX4_valueOfToken 19 = .ok (.aload_n 0, 1) := by decide +kernel
theorem dX4_valueOfToken_20 : decode cX4_valueOfToken 20 = .ok (.getfield 9, 3) := by decide +kernel
theorem dX4_valueOfToken_23 : decode cX4_valueOfToken 23 = .ok (.iload_n 2, 1) := by decide +kernel
theorem dX4_valueOfToken_24 : decode cX4_valueOfToken 24 = .ok (.iaload, 1) := by decide +kernel
theorem dX4_valueOfToken_25 : decode cX4_valueOfToken 25 = .ok (.iadd, 1) := by decide +kernel
theorem dX4_valueOfToken_26 : decode cX4_valueOfToken 26 = .ok (.bipush 48, 2) := by decide +kernel
theorem dX4_valueOfToken_28 : decode cX4_valueOfToken 28 = .ok (.isub, 1) := by decide +kernel
theorem dX4_valueOfToken_29 : decode cX4_valueOfToken 29 = .ok (.istore_n 1, 1) := by decide +kernel
theorem dX4_valueOfToken_30 : decode cX4_valueOfToken 30 = .ok (.iinc 2 1, 3) := by decide +kernel
theorem dX4_valueOfToken_33 : decode cX4_valueOfToken 33 = .ok (.goto (-26), 3) := by decide +kernel
theorem dX4_valueOfToken_36 : decode cX4_valueOfToken 36 = .ok (.iload_n 1, 1) := by decide +kernel
theorem dX4_valueOfToken_37 : decode cX4_valueOfToken 37 = .ok (.ireturn, 1) := by decide +kernel
abbrev rm_X4_valueOfToken : Room := { frames := 0, cells := 0, slots := 0, locals := 0 }
theorem t_b_X4_valueOfToken_7 {G : oa_G} {O : oa_O} {A : Nat → Prop} {t : Nat → Nat} {h : Nat → Nat} {res : Int32} (C : oa_C G cX4_valueOfToken 3 RX4 (some .int) rm_X4_valueOfToken O A) (T : oa_I2) (V : oa_I2)    (k7 : Int32 → Int32 → Option (Int32))  (hk7 : ∀ (b_x1 : Int32) (b_x2 : Int32), k7 b_x1 b_x2 = some res → ww G 3 O A (oa_Q G O A (0, 0) (some (.int res)) (fun W1 => W1 = wd_T O t h T V)) (0, 0) 7 [(0, .ref (t 0)), (1, .int b_x1), (2, .int b_x2)] [] (wd_T O t h T V)) (x1 : Int32) (x2 : Int32) (hf : b_X4_valueOfToken_7 T V k7 x1 x2 = some res) : ww G 3 O A (oa_Q G O A (0, 0) (some (.int res)) (fun W1 => W1 = wd_T O t h T V)) (0, 0) 7 [(0, .ref (t 0)), (1, .int x1), (2, .int x2)] [] (wd_T O t h T V) := by
  delta b_X4_valueOfToken_7 at hf
  refine ww_iload_n (pc := 7) (i := 2) C 2 dX4_valueOfToken_7 rfl rfl ?_
  refine ww_aload_n (pc := 8) (i := 0) C 0 dX4_valueOfToken_8 rfl rfl ?_
  refine ww_get (pc := 9) C fl_X4_39 0 rfl rfl dX4_valueOfToken_9 ?_
  refine ww_icmp_ge (pc := 12) (tgt := 36) C dX4_valueOfToken_12 (by decide) (fun c3 => ?_) (fun c3 => ?_)
  · have hf := oa_ifp c3 hf
    refine ww_iload_n (pc := 36) (i := 1) C 1 dX4_valueOfToken_36 rfl rfl ?_
    obtain rfl := Option.some.inj hf
    exact ww_iret (pc := 37) C rfl dX4_valueOfToken_37
  · have hf := oa_ifn c3 hf
    refine ww_iload_n (pc := 15) (i := 1) C 1 dX4_valueOfToken_15 rfl rfl ?_
    refine ww_bipush (pc := 16) C dX4_valueOfToken_16 kb_10 ?_
    refine ww_imul (pc := 18) C dX4_valueOfToken_18 ?_
    refine ww_aload_n (pc := 19) (i := 0) C 0 dX4_valueOfToken_19 rfl rfl ?_
    refine ww_get (pc := 20) C fl_X4_9 0 rfl rfl dX4_valueOfToken_20 ?_
    refine ww_iload_n (pc := 23) (i := 2) C 2 dX4_valueOfToken_23 rfl rfl ?_
    obtain ⟨y4, e5, hf⟩ := oa_bind hf
    refine ww_iald (pc := 24) C 1 rfl e5 dX4_valueOfToken_24 ?_
    refine ww_iadd (pc := 25) C dX4_valueOfToken_25 ?_
    refine ww_bipush (pc := 26) C dX4_valueOfToken_26 kb_48 ?_
    refine ww_isub (pc := 28) C dX4_valueOfToken_28 ?_
    obtain ⟨y6, e7, hf⟩ := oa_letE hf
    refine ww_topi C e7 ?_
    refine ww_istore_n (pc := 29) (L' := [(0, .ref (t 0)), (1, .int y6), (2, .int x2)]) C [1, 0, 2] dX4_valueOfToken_29 rfl (Nat.le_of_ble_eq_true rfl) rfl ?_
    refine ww_iinc (pc := 30) (v := (x2 + 1)) (L' := [(0, .ref (t 0)), (1, .int y6), (2, .int (x2 + 1))]) C 2 [1, 2, 0] dX4_valueOfToken_30 rfl (ki_1 _) (Nat.le_of_ble_eq_true rfl) rfl ?_
    refine ww_goto (pc := 33) (tgt := 7) C dX4_valueOfToken_33 (by decide) ?_
    exact hk7 y6 (x2 + 1) hf
theorem t_l_X4_valueOfToken_7 {G : oa_G} {O : oa_O} {A : Nat → Prop} {t : Nat → Nat} {h : Nat → Nat} {res : Int32} (C : oa_C G cX4_valueOfToken 3 RX4 (some .int) rm_X4_valueOfToken O A) (T : oa_I2) (V : oa_I2)    : ∀ (n : Nat) (x1 : Int32) (x2 : Int32), l_X4_valueOfToken_7 T V n x1 x2 = some res → ww G 3 O A (oa_Q G O A (0, 0) (some (.int res)) (fun W1 => W1 = wd_T O t h T V)) (0, 0) 7 [(0, .ref (t 0)), (1, .int x1), (2, .int x2)] [] (wd_T O t h T V) := by
  intro n
  induction n with
  | zero => intro x1 x2 hf; exact absurd (show (none : Option (Int32)) = some res from hf) (fun h => nomatch h)
  | succ n ih =>
    intro x1 x2 hf
    exact t_b_X4_valueOfToken_7 C T V  (fun x1 x2 => l_X4_valueOfToken_7 T V n x1 x2)  (fun x1 x2 h => ih x1 x2 h) x1 x2 hf
theorem m_X4_valueOfToken (l : Launch) (O : oa_O) (t : Nat → Nat) (h : Nat → Nat) (T : oa_I2) (V : oa_I2)  (res : Int32) (hf : f_X4_valueOfToken T V = some res) : oa_M l yX4_valueOfToken cX4_valueOfToken 3 (some .int) rm_X4_valueOfToken O [.ref (t 0)] (wd_T O t h T V) (some (.int res)) (fun W1 => W1 = wd_T O t h T V) := by
  refine oa_Mof (by decide) (Nat.le_of_ble_eq_true rfl) (fun G A hl C => ?_)
  subst hl
  have C : oa_C G cX4_valueOfToken 3 RX4 (some .int) rm_X4_valueOfToken O A := C
  have hf : f_X4_valueOfToken T V = some res := hf
  delta f_X4_valueOfToken at hf
  show ww G 3 O A (oa_Q G O A (0, 0) (some (.int res)) (fun W1 => W1 = wd_T O t h T V)) (0, 0) 0 [(0, .ref (t 0))] [] (wd_T O t h T V)
  refine ww_iconst (pc := 0) C dX4_valueOfToken_0 kc_0 ?_
  refine ww_istore_n (pc := 1) (L' := [(0, .ref (t 0)), (1, .int 0)]) C [1, 0] dX4_valueOfToken_1 rfl (Nat.le_of_ble_eq_true rfl) rfl ?_
  refine ww_aload_n (pc := 2) (i := 0) C 0 dX4_valueOfToken_2 rfl rfl ?_
  refine ww_get (pc := 3) C fl_X4_72 0 rfl rfl dX4_valueOfToken_3 ?_
  obtain ⟨y1, e2, hf⟩ := oa_letE hf
  refine ww_topi C e2 ?_
  refine ww_istore_n (pc := 6) (L' := [(0, .ref (t 0)), (1, .int 0), (2, .int y1)]) C [1, 2, 0] dX4_valueOfToken_6 rfl (Nat.le_of_ble_eq_true rfl) rfl ?_
  exact t_l_X4_valueOfToken_7 C T V    oa_fu 0 y1 hf
theorem dX4_takeNumber_0 : decode cX4_takeNumber 0 = .ok (.aload_n 0, 1) := by decide +kernel
theorem dX4_takeNumber_1 : decode cX4_takeNumber 1 = .ok (.invokevirtual 45, 3) := by decide +kernel
theorem dX4_takeNumber_4 : decode cX4_takeNumber 4 = .ok (.ifCond .ne 5, 3) := by decide +kernel
theorem dX4_takeNumber_7 : decode cX4_takeNumber 7 = .ok (.iconst 0, 1) := by decide +kernel
theorem dX4_takeNumber_8 : decode cX4_takeNumber 8 = .ok (.ireturn, 1) := by decide +kernel
theorem dX4_takeNumber_9 : decode cX4_takeNumber 9 = .ok (.aload_n 0, 1) := by decide +kernel
theorem dX4_takeNumber_10 : decode cX4_takeNumber 10 = .ok (.getfield 49, 3) := by decide +kernel
theorem dX4_takeNumber_13 : decode cX4_takeNumber 13 = .ok (.iconst 2, 1) := by decide +kernel
theorem dX4_takeNumber_14 : decode cX4_takeNumber 14 = .ok (.if_icmp .eq 8, 3) := by decide +kernel
theorem dX4_takeNumber_17 : decode cX4_takeNumber 17 = .ok (.aload_n 0, 1) := by decide +kernel
theorem dX4_takeNumber_18 : decode cX4_takeNumber 18 = .ok (.invokevirtual 56, 3) := by decide +kernel
theorem dX4_takeNumber_21 : decode cX4_takeNumber 21 = .ok (.ireturn, 1) := by decide +kernel
theorem dX4_takeNumber_22 : decode cX4_takeNumber 22 = .ok (.aload_n 0, 1) := by decide +kernel
theorem dX4_takeNumber_23 : decode cX4_takeNumber 23 = .ok (.aload_n 0, 1) := by decide +kernel
theorem dX4_takeNumber_24 : decode cX4_takeNumber 24 = .ok (.invokevirtual 92, 3) := by decide +kernel
theorem dX4_takeNumber_27 : decode cX4_takeNumber 27 = .ok (.putfield 95, 3) := by decide +kernel
theorem dX4_takeNumber_30 : decode cX4_takeNumber 30 = .ok (.aload_n 0, 1) := by decide +kernel
theorem dX4_takeNumber_31 : decode cX4_takeNumber 31 = .ok (.getfield 95, 3) := by decide +kernel
theorem dX4_takeNumber_34 : decode cX4_takeNumber 34 = .ok (.iload_n 1, 1) := by decide +kernel
theorem dX4_takeNumber_35 : decode cX4_takeNumber 35 = .ok (.iload_n 2, 1) := by decide +kernel
theorem dX4_takeNumber_36 : decode cX4_takeNumber 36 = .ok (.invokestatic 26, 3) := by decide +kernel
theorem dX4_takeNumber_39 : decode cX4_takeNumber 39 = .ok (.ifCond .ne 15, 3) := by decide +kernel
theorem dX4_takeNumber_42 : decode cX4_takeNumber 42 = .ok (.aload_n 0, 1) := by decide +kernel
theorem dX4_takeNumber_43 : decode cX4_takeNumber 43 = .ok (.iconst 3, 1) := by decide +kernel
theorem dX4_takeNumber_44 : decode cX4_takeNumber 44 = .ok (.aload_n 0, 1) := by decide +kernel
theorem dX4_takeNumber_45 : decode cX4_takeNumber 45 = .ok (.getfield 72, 3) := by decide +kernel
theorem dX4_takeNumber_48 : decode cX4_takeNumber 48 = .ok (.invokevirtual 79, 3) := by decide +kernel
theorem dX4_takeNumber_51 : decode cX4_takeNumber 51 = .ok (.ifCond .eq 7, 3) := by decide +kernel
theorem dX4_takeNumber_54 : decode cX4_takeNumber 54 = .ok (.iconst 1, 1) := by decide +kernel
theorem dX4_takeNumber_55 : decode cX4_takeNumber 55 = .ok (.goto 4, 3) := by decide +kernel
theorem dX4_takeNumber_58 : decode cX4_takeNumber 58 = .ok (.iconst 0, 1) := by decide +kernel
theorem dX4_takeNumber_59 : decode cX4_takeNumber 59 = .ok (.ireturn, 1) := by decide +kernel
abbrev rm_X4_takeNumber : Room := { frames := 2, cells := 0, slots := 0, locals := 42 }
theorem m_X4_takeNumber (l : Launch) (O : oa_O) (t : Nat → Nat) (h : Nat → Nat) (T : oa_I2) (V : oa_I2) (x1 : Int32) (x2 : Int32) (res : Int32 × oa_I2) (hf : f_X4_takeNumber T V x1 x2 = some res) : oa_M l yX4_takeNumber cX4_takeNumber 3 (some .boolean) rm_X4_takeNumber O [.ref (t 0), .int x1, .int x2] (wd_T O t h T V) (some (.int res.1)) (fun W1 => W1 = wd_T O t h res.2 V) := by
  refine oa_Mof (by decide) (Nat.le_of_ble_eq_true rfl) (fun G A hl C => ?_)
  subst hl
  have C : oa_C G cX4_takeNumber 3 RX4 (some .boolean) rm_X4_takeNumber O A := C
  have hf : f_X4_takeNumber T V x1 x2 = some res := hf
  delta f_X4_takeNumber at hf
  show ww G 3 O A (oa_Q G O A (0, 0) (some (.int res.1)) (fun W1 => W1 = wd_T O t h res.2 V)) (0, 0) 0 [(0, .ref (t 0)), (1, .int x1), (2, .int x2)] [] (wd_T O t h T V)
  refine ww_aload_n (pc := 0) (i := 0) C 0 dX4_takeNumber_0 rfl rfl ?_
  obtain ⟨y1, T2, e3, hf⟩ := oa_bind2 hf
  refine ww_callV (pc := 1) (As := []) (rest := []) (wd := wd_T O t h T2 V) (ws' := wd_T O t h T2 V) (rv := (some (.int y1))) C hY_X4_advance hV_X4_advance lk_X4_45 (m_X4_advance _ O t h T V _ e3) [0, 1, 2, 3, 4, 5, 6, 7] 0 rfl rfl rfl rfl rfl rfl (fun _ h => h) ⟨rfl, rfl⟩ ⟨Nat.zero_le _, Nat.zero_le _⟩ ⟨Nat.le_of_ble_eq_true rfl, Nat.le_of_ble_eq_true rfl⟩ rfl (Nat.le_of_ble_eq_true rfl) rfl rfl dX4_takeNumber_1 ?_
  refine ww_if_ne (pc := 4) (tgt := 9) C dX4_takeNumber_4 (by decide) (fun c5 => ?_) (fun c5 => ?_)
  · have hf := oa_ifn c5 hf
    refine ww_aload_n (pc := 9) (i := 0) C 0 dX4_takeNumber_9 rfl rfl ?_
    refine ww_get (pc := 10) C fl_X4_49 0 rfl rfl dX4_takeNumber_10 ?_
    refine ww_iconst (pc := 13) C dX4_takeNumber_13 kc_2 ?_
    refine ww_icmp_eq (pc := 14) (tgt := 22) C dX4_takeNumber_14 (by decide) (fun c6 => ?_) (fun c6 => ?_)
    · have hf := oa_ifp c6 hf
      refine ww_aload_n (pc := 22) (i := 0) C 0 dX4_takeNumber_22 rfl rfl ?_
      refine ww_aload_n (pc := 23) (i := 0) C 0 dX4_takeNumber_23 rfl rfl ?_
      obtain ⟨y7, e8, hf⟩ := oa_bind hf
      refine ww_callV (pc := 24) (As := []) (rest := [.ref (t 0)]) (wd := wd_T O t h T2 V) (ws' := wd_T O t h T2 V) (rv := (some (.int y7))) C hY_X4_valueOfToken hV_X4_valueOfToken lk_X4_92 (m_X4_valueOfToken _ O t h T2 V _ e8) [0, 1, 2, 3, 4, 5, 6, 7] 0 rfl rfl rfl rfl rfl (oa_putS _ _ _ rfl) (fun _ h => h) ⟨rfl, rfl⟩ ⟨Nat.zero_le _, Nat.zero_le _⟩ ⟨Nat.le_of_ble_eq_true rfl, Nat.le_of_ble_eq_true rfl⟩ rfl (Nat.le_of_ble_eq_true rfl) rfl rfl dX4_takeNumber_24 ?_
      obtain ⟨T10, e11, hf⟩ := oa_letE hf
      refine ww_put (pc := 27) C fl_X4_95 (fun Z => wd_T O t h Z V) 0 rfl rfl rfl (Nat.le_of_ble_eq_true rfl) e11 rfl dX4_takeNumber_27 ?_
      refine ww_aload_n (pc := 30) (i := 0) C 0 dX4_takeNumber_30 rfl rfl ?_
      refine ww_get (pc := 31) C fl_X4_95 0 rfl rfl dX4_takeNumber_31 ?_
      refine ww_iload_n (pc := 34) (i := 1) C 1 dX4_takeNumber_34 rfl rfl ?_
      refine ww_iload_n (pc := 35) (i := 2) C 2 dX4_takeNumber_35 rfl rfl ?_
      obtain ⟨y12, e13, hf⟩ := oa_bind hf
      refine ww_callN (pc := 36) (ho := "OneAnger") (As := [.int (T10 1 7), .int x1, .int x2]) (rest := []) (wd := []) (ws' := wd_T O t h T10 V) (rv := (some (.int y12))) C hY_X6_within hS_X6_within (by decide +kernel) (m_X6_within _ O  (T10 1 7) x1 x2 _ e13) [] rfl rfl rfl (oa_putS _ _ _ rfl) (fun _ h => h) ⟨rfl, rfl⟩ ⟨Nat.zero_le _, Nat.zero_le _⟩ ⟨Nat.le_of_ble_eq_true rfl, Nat.le_of_ble_eq_true rfl⟩ rfl (Nat.le_of_ble_eq_true rfl) rfl rfl dX4_takeNumber_36 ?_
      refine ww_if_ne (pc := 39) (tgt := 54) C dX4_takeNumber_39 (by decide) (fun c15 => ?_) (fun c15 => ?_)
      · have hf := oa_ifn c15 hf
        refine ww_iconst (pc := 54) C dX4_takeNumber_54 kc_1 ?_
        refine ww_goto (pc := 55) (tgt := 59) C dX4_takeNumber_55 (by decide) ?_
        obtain rfl := Option.some.inj hf
        exact ww_zret (pc := 59) C kz_1 rfl dX4_takeNumber_59
      · have hf := oa_ifp c15 hf
        refine ww_aload_n (pc := 42) (i := 0) C 0 dX4_takeNumber_42 rfl rfl ?_
        refine ww_iconst (pc := 43) C dX4_takeNumber_43 kc_3 ?_
        refine ww_aload_n (pc := 44) (i := 0) C 0 dX4_takeNumber_44 rfl rfl ?_
        refine ww_get (pc := 45) C fl_X4_72 0 rfl rfl dX4_takeNumber_45 ?_
        obtain ⟨y16, T17, e18, hf⟩ := oa_bind2 hf
        refine ww_callV (pc := 48) (As := [.int 3, .int (T10 1 6)]) (rest := []) (wd := wd_T O t h T17 V) (ws' := wd_T O t h T17 V) (rv := (some (.int y16))) C hY_X4_fail hV_X4_fail lk_X4_79 (m_X4_fail _ O t h T10 V 3 (T10 1 6) _ e18) [0, 1, 2, 3, 4, 5, 6, 7] 0 rfl rfl rfl rfl rfl rfl (fun _ h => h) ⟨rfl, rfl⟩ ⟨Nat.zero_le _, Nat.zero_le _⟩ ⟨Nat.le_of_ble_eq_true rfl, Nat.le_of_ble_eq_true rfl⟩ rfl (Nat.le_of_ble_eq_true rfl) rfl rfl dX4_takeNumber_48 ?_
        refine ww_if_eq (pc := 51) (tgt := 58) C dX4_takeNumber_51 (by decide) (fun c20 => ?_) (fun c20 => ?_)
        · have hf := oa_ifp c20 hf
          refine ww_iconst (pc := 58) C dX4_takeNumber_58 kc_0 ?_
          obtain rfl := Option.some.inj hf
          exact ww_zret (pc := 59) C kz_0 rfl dX4_takeNumber_59
        · have hf := oa_ifn c20 hf
          refine ww_iconst (pc := 54) C dX4_takeNumber_54 kc_1 ?_
          refine ww_goto (pc := 55) (tgt := 59) C dX4_takeNumber_55 (by decide) ?_
          obtain rfl := Option.some.inj hf
          exact ww_zret (pc := 59) C kz_1 rfl dX4_takeNumber_59
    · have hf := oa_ifn c6 hf
      refine ww_aload_n (pc := 17) (i := 0) C 0 dX4_takeNumber_17 rfl rfl ?_
      obtain ⟨y21, T22, e23, hf⟩ := oa_bind2 hf
      refine ww_callV (pc := 18) (As := []) (rest := []) (wd := wd_T O t h T22 V) (ws' := wd_T O t h T22 V) (rv := (some (.int y21))) C hY_X4_misplaced hV_X4_misplaced lk_X4_56 (m_X4_misplaced _ O t h T2 V _ e23) [0, 1, 2, 3, 4, 5, 6, 7] 0 rfl rfl rfl rfl rfl rfl (fun _ h => h) ⟨rfl, rfl⟩ ⟨Nat.zero_le _, Nat.zero_le _⟩ ⟨Nat.le_of_ble_eq_true rfl, Nat.le_of_ble_eq_true rfl⟩ rfl (Nat.le_of_ble_eq_true rfl) rfl rfl dX4_takeNumber_18 ?_
      obtain ⟨z25, e26, hf⟩ := oa_bind hf
      have e26 := oa_zc_some e26
      refine ww_topi C e26.1 ?_
      obtain rfl := Option.some.inj hf
      exact ww_zret (pc := 21) C e26.2 rfl dX4_takeNumber_21
  · have hf := oa_ifp c5 hf
    refine ww_iconst (pc := 7) C dX4_takeNumber_7 kc_0 ?_
    obtain rfl := Option.some.inj hf
    exact ww_zret (pc := 8) C kz_0 rfl dX4_takeNumber_8
theorem dX4_withNamed_0 : decode cX4_withNamed 0 = .ok (.aload_n 0, 1) := by decide +kernel
theorem dX4_withNamed_1 : decode cX4_withNamed 1 = .ok (.ldc 154, 2) := by decide +kernel
theorem dX4_withNamed_3 : decode cX4_withNamed 3 = .ok (.invokevirtual 100, 3) := by decide +kernel
theorem dX4_withNamed_6 : decode cX4_withNamed 6 = .ok (.ifCond .eq 5, 3) := by decide +kernel
theorem dX4_withNamed_9 : decode cX4_withNamed 9 = .ok (.iconst 0, 1) := by decide +kernel
theorem dX4_withNamed_10 : decode cX4_withNamed 10 = .ok (.ireturn, 1) := by decide +kernel
theorem dX4_withNamed_11 : decode cX4_withNamed 11 = .ok (.aload_n 0, 1) := by decide +kernel
theorem dX4_withNamed_12 : decode cX4_withNamed 12 = .ok (.ldc 156, 2) := by decide +kernel
theorem dX4_withNamed_14 : decode cX4_withNamed 14 = .ok (.invokevirtual 100, 3) := by decide +kernel
theorem dX4_withNamed_17 : decode cX4_withNamed 17 = .ok (.ifCond .eq 5, 3) := by decide +kernel
theorem dX4_withNamed_20 : decode cX4_withNamed 20 = .ok (.iconst 1, 1) := by decide +kernel
theorem dX4_withNamed_21 : decode cX4_withNamed 21 = .ok (.ireturn, 1) := by decide +kernel
theorem dX4_withNamed_22 : decode cX4_withNamed 22 = .ok (.aload_n 0, 1) := by decide +kernel
theorem dX4_withNamed_23 : decode cX4_withNamed 23 = .ok (.ldc 158, 2) := by decide +kernel
theorem dX4_withNamed_25 : decode cX4_withNamed 25 = .ok (.invokevirtual 100, 3) := by decide +kernel
theorem dX4_withNamed_28 : decode cX4_withNamed 28 = .ok (.ifCond .eq 5, 3) := by decide +kernel
theorem dX4_withNamed_31 : decode cX4_withNamed 31 = .ok (.iconst 2, 1) := by decide +kernel
theorem dX4_withNamed_32 : decode cX4_withNamed 32 = .ok (.ireturn, 1) := by decide +kernel
theorem dX4_withNamed_33 : decode cX4_withNamed 33 = .ok (.aload_n 0, 1) := by decide +kernel
theorem dX4_withNamed_34 : decode cX4_withNamed 34 = .ok (.ldc 160, 2) := by decide +kernel
theorem dX4_withNamed_36 : decode cX4_withNamed 36 = .ok (.invokevirtual 100, 3) := by decide +kernel
theorem dX4_withNamed_39 : decode cX4_withNamed 39 = .ok (.ifCond .eq 7, 3) := by decide +kernel
theorem dX4_withNamed_42 : decode cX4_withNamed 42 = .ok (.iconst 3, 1) := by decide +kernel
theorem dX4_withNamed_43 : decode cX4_withNamed 43 = .ok (.goto 5, 3) := by decide +kernel
theorem dX4_withNamed_46 : decode cX4_withNamed 46 = .ok (.bipush (-4), 2) := by decide +kernel
theorem dX4_withNamed_48 : decode cX4_withNamed 48 = .ok (.ireturn, 1) := by decide +kernel
abbrev rm_X4_withNamed : Room := { frames := 5, cells := 0, slots := 0, locals := 107 }
theorem m_X4_withNamed (l : Launch) (O : oa_O) (t : Nat → Nat) (h : Nat → Nat) (T : oa_I2) (V : oa_I2)  (res : Int32) (hf : f_X4_withNamed T V = some res) : oa_M l yX4_withNamed cX4_withNamed 1 (some .int) rm_X4_withNamed O [.ref (t 0)] (wd_T O t h T V) (some (.int res)) (fun W1 => W1 = wd_T O t h T V) := by
  refine oa_Mof (by decide) (Nat.le_of_ble_eq_true rfl) (fun G A hl C => ?_)
  subst hl
  have C : oa_C G cX4_withNamed 1 RX4 (some .int) rm_X4_withNamed O A := C
  have hf : f_X4_withNamed T V = some res := hf
  delta f_X4_withNamed at hf
  show ww G 1 O A (oa_Q G O A (0, 0) (some (.int res)) (fun W1 => W1 = wd_T O t h T V)) (0, 0) 0 [(0, .ref (t 0))] [] (wd_T O t h T V)
  refine ww_aload_n (pc := 0) (i := 0) C 0 dX4_withNamed_0 rfl rfl ?_
  refine ww_ldcS (pc := 1) (k := 9) C (by decide) rfl dX4_withNamed_1 ?_
  obtain ⟨y1, e2, hf⟩ := oa_bind hf
  refine ww_callV (pc := 3) (As := [.ref (O.2.1 9)]) (rest := []) (wd := wd_T O t h T V) (ws' := wd_T O t h T V) (rv := (some (.int y1))) C hY_X4_isName hV_X4_isName lk_X4_100 (m_X4_isName _ O t h (by decide) T V _ e2) [0, 1, 2, 3, 4, 5, 6, 7] 0 rfl rfl rfl rfl rfl (oa_putS _ _ _ rfl) (fun _ h => h) ⟨rfl, rfl⟩ ⟨Nat.zero_le _, Nat.zero_le _⟩ ⟨Nat.le_of_ble_eq_true rfl, Nat.le_of_ble_eq_true rfl⟩ rfl (Nat.le_of_ble_eq_true rfl) rfl rfl dX4_withNamed_3 ?_
  refine ww_if_eq (pc := 6) (tgt := 11) C dX4_withNamed_6 (by decide) (fun c4 => ?_) (fun c4 => ?_)
  · have hf := oa_ifp c4 hf
    refine ww_aload_n (pc := 11) (i := 0) C 0 dX4_withNamed_11 rfl rfl ?_
    refine ww_ldcS (pc := 12) (k := 10) C (by decide) rfl dX4_withNamed_12 ?_
    obtain ⟨y5, e6, hf⟩ := oa_bind hf
    refine ww_callV (pc := 14) (As := [.ref (O.2.1 10)]) (rest := []) (wd := wd_T O t h T V) (ws' := wd_T O t h T V) (rv := (some (.int y5))) C hY_X4_isName hV_X4_isName lk_X4_100 (m_X4_isName _ O t h (by decide) T V _ e6) [0, 1, 2, 3, 4, 5, 6, 7] 0 rfl rfl rfl rfl rfl (oa_putS _ _ _ rfl) (fun _ h => h) ⟨rfl, rfl⟩ ⟨Nat.zero_le _, Nat.zero_le _⟩ ⟨Nat.le_of_ble_eq_true rfl, Nat.le_of_ble_eq_true rfl⟩ rfl (Nat.le_of_ble_eq_true rfl) rfl rfl dX4_withNamed_14 ?_
    refine ww_if_eq (pc := 17) (tgt := 22) C dX4_withNamed_17 (by decide) (fun c8 => ?_) (fun c8 => ?_)
    · have hf := oa_ifp c8 hf
      refine ww_aload_n (pc := 22) (i := 0) C 0 dX4_withNamed_22 rfl rfl ?_
      refine ww_ldcS (pc := 23) (k := 11) C (by decide) rfl dX4_withNamed_23 ?_
      obtain ⟨y9, e10, hf⟩ := oa_bind hf
      refine ww_callV (pc := 25) (As := [.ref (O.2.1 11)]) (rest := []) (wd := wd_T O t h T V) (ws' := wd_T O t h T V) (rv := (some (.int y9))) C hY_X4_isName hV_X4_isName lk_X4_100 (m_X4_isName _ O t h (by decide) T V _ e10) [0, 1, 2, 3, 4, 5, 6, 7] 0 rfl rfl rfl rfl rfl (oa_putS _ _ _ rfl) (fun _ h => h) ⟨rfl, rfl⟩ ⟨Nat.zero_le _, Nat.zero_le _⟩ ⟨Nat.le_of_ble_eq_true rfl, Nat.le_of_ble_eq_true rfl⟩ rfl (Nat.le_of_ble_eq_true rfl) rfl rfl dX4_withNamed_25 ?_
      refine ww_if_eq (pc := 28) (tgt := 33) C dX4_withNamed_28 (by decide) (fun c12 => ?_) (fun c12 => ?_)
      · have hf := oa_ifp c12 hf
        refine ww_aload_n (pc := 33) (i := 0) C 0 dX4_withNamed_33 rfl rfl ?_
        refine ww_ldcS (pc := 34) (k := 12) C (by decide) rfl dX4_withNamed_34 ?_
        obtain ⟨y13, e14, hf⟩ := oa_bind hf
        refine ww_callV (pc := 36) (As := [.ref (O.2.1 12)]) (rest := []) (wd := wd_T O t h T V) (ws' := wd_T O t h T V) (rv := (some (.int y13))) C hY_X4_isName hV_X4_isName lk_X4_100 (m_X4_isName _ O t h (by decide) T V _ e14) [0, 1, 2, 3, 4, 5, 6, 7] 0 rfl rfl rfl rfl rfl (oa_putS _ _ _ rfl) (fun _ h => h) ⟨rfl, rfl⟩ ⟨Nat.zero_le _, Nat.zero_le _⟩ ⟨Nat.le_of_ble_eq_true rfl, Nat.le_of_ble_eq_true rfl⟩ rfl (Nat.le_of_ble_eq_true rfl) rfl rfl dX4_withNamed_36 ?_
        refine ww_if_eq (pc := 39) (tgt := 46) C dX4_withNamed_39 (by decide) (fun c16 => ?_) (fun c16 => ?_)
        · have hf := oa_ifp c16 hf
          refine ww_bipush (pc := 46) C dX4_withNamed_46 kb_m4 ?_
          obtain rfl := Option.some.inj hf
          exact ww_iret (pc := 48) C rfl dX4_withNamed_48
        · have hf := oa_ifn c16 hf
          refine ww_iconst (pc := 42) C dX4_withNamed_42 kc_3 ?_
          refine ww_goto (pc := 43) (tgt := 48) C dX4_withNamed_43 (by decide) ?_
          obtain rfl := Option.some.inj hf
          exact ww_iret (pc := 48) C rfl dX4_withNamed_48
      · have hf := oa_ifn c12 hf
        refine ww_iconst (pc := 31) C dX4_withNamed_31 kc_2 ?_
        obtain rfl := Option.some.inj hf
        exact ww_iret (pc := 32) C rfl dX4_withNamed_32
    · have hf := oa_ifn c8 hf
      refine ww_iconst (pc := 20) C dX4_withNamed_20 kc_1 ?_
      obtain rfl := Option.some.inj hf
      exact ww_iret (pc := 21) C rfl dX4_withNamed_21
  · have hf := oa_ifn c4 hf
    refine ww_iconst (pc := 9) C dX4_withNamed_9 kc_0 ?_
    obtain rfl := Option.some.inj hf
    exact ww_iret (pc := 10) C rfl dX4_withNamed_10
theorem dX4_takeWiths_0 : decode cX4_takeWiths 0 = .ok (.iconst 0, 1) := by decide +kernel
theorem dX4_takeWiths_1 : decode cX4_takeWiths 1 = .ok (.istore_n 2, 1) := by decide +kernel
theorem dX4_takeWiths_2 : decode cX4_takeWiths 2 = .ok (.iconst 0, 1) := by decide +kernel
theorem dX4_takeWiths_3 : decode cX4_takeWiths 3 = .ok (.istore_n 3, 1) := by decide +kernel
theorem dX4_takeWiths_4 : decode cX4_takeWiths 4 = .ok (.iload_n 3, 1) := by decide +kernel
theorem dX4_takeWiths_5 : decode cX4_takeWiths 5 = .ok (.sipush 320, 3) := by decide +kernel
theorem dX4_takeWiths_8 : decode cX4_takeWiths 8 = .ok (.if_icmp .ge 108, 3) := by decide +kernel
theorem dX4_takeWiths_11 : decode cX4_takeWiths 11 = .ok (.aload_n 0, 1) := by decide +kernel
theorem dX4_takeWiths_12 : decode cX4_takeWiths 12 = .ok (.getfield 49, 3) := by decide +kernel
theorem dX4_takeWiths_15 : decode cX4_takeWiths 15 = .ok (.iconst 1, 1) := by decide +kernel
theorem dX4_takeWiths_16 : decode cX4_takeWiths 16 = .ok (.if_icmp .ne 100, 3) := by decide +kernel
theorem dX4_takeWiths_19 : decode cX4_takeWiths 19 = .ok (.aload_n 0, 1) := by decide +kernel
theorem dX4_takeWiths_20 : decode cX4_takeWiths 20 = .ok (.invokevirtual 162, 3) := by decide +kernel
theorem dX4_takeWiths_23 : decode cX4_takeWiths 23 = .ok (.istore 4, 2) := by decide +kernel
theorem dX4_takeWiths_25 : decode cX4_takeWiths 25 = .ok (.iload 4, 2) := by decide +kernel
theorem dX4_takeWiths_27 : decode cX4_takeWiths 27 = .ok (.bipush (-4), 2) := by decide +kernel
theorem dX4_takeWiths_29 : decode cX4_takeWiths 29 = .ok (.if_icmp .ne 8, 3) := by decide +kernel
theorem dX4_takeWiths_32 : decode cX4_takeWiths 32 = .ok (.aload_n 0, 1) := by decide +kernel
theorem dX4_takeWiths_33 : decode cX4_takeWiths 33 = .ok (.invokevirtual 56, 3) := by decide +kernel
theorem dX4_takeWiths_36 : decode cX4_takeWiths 36 = .ok (.ireturn, 1) := by decide +kernel
theorem dX4_takeWiths_37 : decode cX4_takeWiths 37 = .ok (.iload_n 2, 1) := by decide +kernel
theorem dX4_takeWiths_38 : decode cX4_takeWiths 38 = .ok (.iload 4, 2) := by decide +kernel
theorem dX4_takeWiths_40 : decode cX4_takeWiths 40 = .ok (.ishr, 1) := by decide +kernel
theorem dX4_takeWiths_41 : decode cX4_takeWiths 41 = .ok (.iconst 1, 1) := by decide +kernel
theorem dX4_takeWiths_42 : decode cX4_takeWiths 42 = .ok (.iand, 1) := by decide +kernel
theorem dX4_takeWiths_43 : decode cX4_takeWiths 43 = .ok (.ifCond .eq 13, 3) := by decide +kernel
theorem dX4_takeWiths_46 : decode cX4_takeWiths 46 = .ok (.aload_n 0, 1) := by decide +kernel
theorem dX4_takeWiths_47 : decode cX4_takeWiths 47 = .ok (.iconst 4, 1) := by decide +kernel
theorem dX4_takeWiths_48 : decode cX4_takeWiths 48 = .ok (.aload_n 0, 1) := by decide +kernel
theorem dX4_takeWiths_49 : decode cX4_takeWiths 49 = .ok (.getfield 72, 3) := by decide +kernel
theorem dX4_takeWiths_52 : decode cX4_takeWiths 52 = .ok (.invokevirtual 79, 3) := by decide +kernel
theorem dX4_takeWiths_55 : decode cX4_takeWiths 55 = .ok (.ireturn, 1) := by decide +kernel
theorem dX4_takeWiths_56 : decode cX4_takeWiths 56 = .ok (.iload_n 2, 1) := by decide +kernel
theorem dX4_takeWiths_57 : decode cX4_takeWiths 57 = .ok (.iconst 1, 1) := by decide +kernel
theorem dX4_takeWiths_58 : decode cX4_takeWiths 58 = .ok (.iload 4, 2) := by decide +kernel
theorem dX4_takeWiths_60 : decode cX4_takeWiths 60 = .ok (.ishl, 1) := by decide +kernel
theorem dX4_takeWiths_61 : decode cX4_takeWiths 61 = .ok (.ior, 1) := by decide +kernel
theorem dX4_takeWiths_62 : decode cX4_takeWiths 62 = .ok (.istore_n 2, 1) := by decide +kernel
theorem dX4_takeWiths_63 : decode cX4_takeWiths 63 = .ok (.iload 4, 2) := by decide +kernel
theorem dX4_takeWiths_65 : decode cX4_takeWiths 65 = .ok (.iconst 3, 1) := by decide +kernel
theorem dX4_takeWiths_66 : decode cX4_takeWiths 66 = .ok (.if_icmp .eq 28, 3) := by decide +kernel
theorem dX4_takeWiths_69 : decode cX4_takeWiths 69 = .ok (.aload_n 0, 1) := by decide +kernel
theorem dX4_takeWiths_70 : decode cX4_takeWiths 70 = .ok (.iconst 0, 1) := by decide +kernel
theorem dX4_takeWiths_71 : decode cX4_takeWiths 71 = .ok (.iload 4, 2) := by decide +kernel
theorem dX4_takeWiths_73 : decode cX4_takeWiths 73 = .ok (.ifCond .ne 12, 3) := by decide +kernel
theorem dX4_takeWiths_76 : decode cX4_takeWiths 76 = .ok (.getstatic 138, 3) := by decide +kernel
theorem dX4_takeWiths_79 : decode cX4_takeWiths 79 = .ok (.bipush 6, 2) := by decide +kernel
theorem dX4_takeWiths_81 : decode cX4_takeWiths 81 = .ok (.iaload, 1) := by decide +kernel
theorem dX4_takeWiths_82 : decode cX4_takeWiths 82 = .ok (.goto 4, 3) := by decide +kernel
theorem dX4_takeWiths_85 : decode cX4_takeWiths 85 = .ok (.iconst 5, 1) := by decide +kernel
theorem dX4_takeWiths_86 : decode cX4_takeWiths 86 = .ok (.invokevirtual 116, 3) := by decide +kernel
theorem dX4_takeWiths_89 : decode cX4_takeWiths 89 = .ok (.ifCond .ne 5, 3) := by decide +kernel
theorem dX4_takeWiths_92 : decode cX4_takeWiths 92 = .ok (.iconst 0, 1) := by decide +kernel
theorem dX4_takeWiths_93 : decode cX4_takeWiths 93 = .ok (.ireturn, 1) := by decide +kernel
theorem dX4_takeWiths_94 : decode cX4_takeWiths 94 = .ok (.aload_n 0, 1) := by decide +kernel
theorem dX4_takeWiths_95 : decode cX4_takeWiths 95 = .ok (.iload_n 1, 1) := by decide +kernel
theorem dX4_takeWiths_96 : decode cX4_takeWiths 96 = .ok (.iload 4, 2) := by decide +kernel
theorem dX4_takeWiths_98 : decode cX4_takeWiths 98 = .ok (.invokevirtual 165, 3) := by decide +kernel
theorem dX4_takeWiths_101 : decode cX4_takeWiths 101 = .ok (.aload_n 0, 1) := by decide +kernel
theorem dX4_takeWiths_102 : decode cX4_takeWiths 102 = .ok (.invokevirtual 45, 3) := by decide +kernel
theorem dX4_takeWiths_105 : decode cX4_takeWiths 105 = .ok (.ifCond .ne 5, 3) := by decide +kernel
theorem dX4_takeWiths_108 : decode cX4_takeWiths 108 = .ok (.iconst 0, 1) := by decide +kernel
theorem dX4_takeWiths_109 : decode cX4_takeWiths 109 = .ok (.ireturn, 1) := by decide +kernel
theorem dX4_takeWiths_110 : decode cX4_takeWiths 110 = .ok (.iinc 3 1, 3) := by decide +kernel
theorem dX4_takeWiths_113 : decode cX4_takeWiths 113 = .ok (.goto (-109), 3) := by decide +kernel
theorem dX4_takeWiths_116 : decode cX4_takeWiths 116 = .ok (.iconst 1, 1) := by decide +kernel
theorem dX4_takeWiths_117 : decode cX4_takeWiths 117 = .ok (.ireturn, 1) := by decide +kernel
abbrev rm_X4_takeWiths : Room := { frames := 6, cells := 0, slots := 0, locals := 127 }
theorem t_b_X4_takeWiths_94 {G : oa_G} {O : oa_O} {A : Nat → Prop} {t : Nat → Nat} {h : Nat → Nat} {res : Int32 × oa_I2 × oa_I2} (C : oa_C G cX4_takeWiths 5 RX4 (some .boolean) rm_X4_takeWiths O A) (x1 : Int32)  (T : oa_I2) (V : oa_I2) (x2 : Int32) (x3 : Int32) (x4 : Int32) (k4 : oa_I2 → oa_I2 → Int32 → Int32 → Option (Int32 × oa_I2 × oa_I2)) (hk4 : ∀ (b_T : oa_I2) (b_V : oa_I2) (b_x2 : Int32) (b_x3 : Int32), k4 b_T b_V b_x2 b_x3 = some res → ww G 5 O A (oa_Q G O A (0, 0) (some (.int res.1)) (fun W1 => W1 = wd_T O t h res.2.1 res.2.2)) (0, 0) 4 [(0, .ref (t 0)), (1, .int x1), (2, .int b_x2), (3, .int b_x3)] [] (wd_T O t h b_T b_V))  (hf : b_X4_takeWiths_94 x1 k4 T V x2 x3 x4 = some res) : ww G 5 O A (oa_Q G O A (0, 0) (some (.int res.1)) (fun W1 => W1 = wd_T O t h res.2.1 res.2.2)) (0, 0) 94 [(0, .ref (t 0)), (1, .int x1), (2, .int x2), (3, .int x3), (4, .int x4)] [] (wd_T O t h T V) := by
  delta b_X4_takeWiths_94 at hf
  refine ww_aload_n (pc := 94) (i := 0) C 0 dX4_takeWiths_94 rfl rfl ?_
  refine ww_iload_n (pc := 95) (i := 1) C 1 dX4_takeWiths_95 rfl rfl ?_
  refine ww_iload (pc := 96) (i := 4) C 4 dX4_takeWiths_96 rfl ?_
  obtain ⟨V26, e27, hf⟩ := oa_bind hf
  refine ww_callV (pc := 98) (As := [.int x1, .int x4]) (rest := []) (wd := wd_T O t h T V26) (ws' := wd_T O t h T V26) (rv := none) C hY_X4_noteWith hV_X4_noteWith lk_X4_165 (m_X4_noteWith _ O t h T V x1 x4 _ e27) [0, 1, 2, 3, 4, 5, 6, 7] 0 rfl rfl rfl rfl rfl rfl (fun _ h => h) ⟨rfl, rfl⟩ ⟨Nat.zero_le _, Nat.zero_le _⟩ ⟨Nat.le_of_ble_eq_true rfl, Nat.le_of_ble_eq_true rfl⟩ rfl (Nat.le_of_ble_eq_true rfl) rfl rfl dX4_takeWiths_98 ?_
  refine ww_aload_n (pc := 101) (i := 0) C 0 dX4_takeWiths_101 rfl rfl ?_
  obtain ⟨y29, T30, e31, hf⟩ := oa_bind2 hf
  refine ww_callV (pc := 102) (As := []) (rest := []) (wd := wd_T O t h T30 V26) (ws' := wd_T O t h T30 V26) (rv := (some (.int y29))) C hY_X4_advance hV_X4_advance lk_X4_45 (m_X4_advance _ O t h T V26 _ e31) [0, 1, 2, 3, 4, 5, 6, 7] 0 rfl rfl rfl rfl rfl rfl (fun _ h => h) ⟨rfl, rfl⟩ ⟨Nat.zero_le _, Nat.zero_le _⟩ ⟨Nat.le_of_ble_eq_true rfl, Nat.le_of_ble_eq_true rfl⟩ rfl (Nat.le_of_ble_eq_true rfl) rfl rfl dX4_takeWiths_102 ?_
  refine ww_if_ne (pc := 105) (tgt := 110) C dX4_takeWiths_105 (by decide) (fun c33 => ?_) (fun c33 => ?_)
  · have hf := oa_ifn c33 hf
    refine ww_iinc (pc := 110) (v := (x3 + 1)) (L' := [(0, .ref (t 0)), (1, .int x1), (2, .int x2), (3, .int (x3 + 1)), (4, .int x4)]) C 3 [1, 2, 3, 0, 4] dX4_takeWiths_110 rfl (ki_1 _) (Nat.le_of_ble_eq_true rfl) rfl ?_
    refine ww_goto (pc := 113) (tgt := 4) C dX4_takeWiths_113 (by decide) ?_
    refine ww_sub C [0, 1, 2, 3] rfl ?_
    exact hk4 T30 V26 x2 (x3 + 1) hf
  · have hf := oa_ifp c33 hf
    refine ww_iconst (pc := 108) C dX4_takeWiths_108 kc_0 ?_
    obtain rfl := Option.some.inj hf
    exact ww_zret (pc := 109) C kz_0 rfl dX4_takeWiths_109
theorem t_b_X4_takeWiths_86 {G : oa_G} {O : oa_O} {A : Nat → Prop} {t : Nat → Nat} {h : Nat → Nat} {res : Int32 × oa_I2 × oa_I2} (C : oa_C G cX4_takeWiths 5 RX4 (some .boolean) rm_X4_takeWiths O A) (x1 : Int32)  (T : oa_I2) (V : oa_I2) (x2 : Int32) (x3 : Int32) (x4 : Int32) (s1 : Int32) (s2 : Int32) (k4 : oa_I2 → oa_I2 → Int32 → Int32 → Option (Int32 × oa_I2 × oa_I2)) (hk4 : ∀ (b_T : oa_I2) (b_V : oa_I2) (b_x2 : Int32) (b_x3 : Int32), k4 b_T b_V b_x2 b_x3 = some res → ww G 5 O A (oa_Q G O A (0, 0) (some (.int res.1)) (fun W1 => W1 = wd_T O t h res.2.1 res.2.2)) (0, 0) 4 [(0, .ref (t 0)), (1, .int x1), (2, .int b_x2), (3, .int b_x3)] [] (wd_T O t h b_T b_V))  (hf : b_X4_takeWiths_86 x1 k4 T V x2 x3 x4 s1 s2 = some res) : ww G 5 O A (oa_Q G O A (0, 0) (some (.int res.1)) (fun W1 => W1 = wd_T O t h res.2.1 res.2.2)) (0, 0) 86 [(0, .ref (t 0)), (1, .int x1), (2, .int x2), (3, .int x3), (4, .int x4)] [.int s2, .int s1, .ref (t 0)] (wd_T O t h T V) := by
  delta b_X4_takeWiths_86 at hf
  obtain ⟨y34, T35, e36, hf⟩ := oa_bind2 hf
  refine ww_callV (pc := 86) (As := [.int s1, .int s2]) (rest := []) (wd := wd_T O t h T35 V) (ws' := wd_T O t h T35 V) (rv := (some (.int y34))) C hY_X4_takeNumber hV_X4_takeNumber lk_X4_116 (m_X4_takeNumber _ O t h T V s1 s2 _ e36) [0, 1, 2, 3, 4, 5, 6, 7] 0 rfl rfl rfl rfl rfl rfl (fun _ h => h) ⟨rfl, rfl⟩ ⟨Nat.zero_le _, Nat.zero_le _⟩ ⟨Nat.le_of_ble_eq_true rfl, Nat.le_of_ble_eq_true rfl⟩ rfl (Nat.le_of_ble_eq_true rfl) rfl rfl dX4_takeWiths_86 ?_
  refine ww_if_ne (pc := 89) (tgt := 94) C dX4_takeWiths_89 (by decide) (fun c38 => ?_) (fun c38 => ?_)
  · have hf := oa_ifn c38 hf
    exact t_b_X4_takeWiths_94 C x1 T35 V x2 x3 x4 k4 hk4 hf
  · have hf := oa_ifp c38 hf
    refine ww_iconst (pc := 92) C dX4_takeWiths_92 kc_0 ?_
    obtain rfl := Option.some.inj hf
    exact ww_zret (pc := 93) C kz_0 rfl dX4_takeWiths_93
theorem t_b_X4_takeWiths_4 {G : oa_G} {O : oa_O} {A : Nat → Prop} {t : Nat → Nat} {h : Nat → Nat} {res : Int32 × oa_I2 × oa_I2} (C : oa_C G cX4_takeWiths 5 RX4 (some .boolean) rm_X4_takeWiths O A) (x1 : Int32)    (k4 : oa_I2 → oa_I2 → Int32 → Int32 → Option (Int32 × oa_I2 × oa_I2))  (hk4 : ∀ (b_T : oa_I2) (b_V : oa_I2) (b_x2 : Int32) (b_x3 : Int32), k4 b_T b_V b_x2 b_x3 = some res → ww G 5 O A (oa_Q G O A (0, 0) (some (.int res.1)) (fun W1 => W1 = wd_T O t h res.2.1 res.2.2)) (0, 0) 4 [(0, .ref (t 0)), (1, .int x1), (2, .int b_x2), (3, .int b_x3)] [] (wd_T O t h b_T b_V)) (T : oa_I2) (V : oa_I2) (x2 : Int32) (x3 : Int32) (hf : b_X4_takeWiths_4 x1 k4 T V x2 x3 = some res) : ww G 5 O A (oa_Q G O A (0, 0) (some (.int res.1)) (fun W1 => W1 = wd_T O t h res.2.1 res.2.2)) (0, 0) 4 [(0, .ref (t 0)), (1, .int x1), (2, .int x2), (3, .int x3)] [] (wd_T O t h T V) := by
  delta b_X4_takeWiths_4 at hf
  refine ww_iload_n (pc := 4) (i := 3) C 3 dX4_takeWiths_4 rfl rfl ?_
  refine ww_sipush (pc := 5) C dX4_takeWiths_5 ks_320 ?_
  refine ww_icmp_ge (pc := 8) (tgt := 116) C dX4_takeWiths_8 (by decide) (fun c1 => ?_) (fun c1 => ?_)
  · have hf := oa_ifp c1 hf
    refine ww_iconst (pc := 116) C dX4_takeWiths_116 kc_1 ?_
    obtain rfl := Option.some.inj hf
    exact ww_zret (pc := 117) C kz_1 rfl dX4_takeWiths_117
  · have hf := oa_ifn c1 hf
    refine ww_aload_n (pc := 11) (i := 0) C 0 dX4_takeWiths_11 rfl rfl ?_
    refine ww_get (pc := 12) C fl_X4_49 0 rfl rfl dX4_takeWiths_12 ?_
    refine ww_iconst (pc := 15) C dX4_takeWiths_15 kc_1 ?_
    refine ww_icmp_ne (pc := 16) (tgt := 116) C dX4_takeWiths_16 (by decide) (fun c2 => ?_) (fun c2 => ?_)
    · have hf := oa_ifn c2 hf
      refine ww_iconst (pc := 116) C dX4_takeWiths_116 kc_1 ?_
      obtain rfl := Option.some.inj hf
      exact ww_zret (pc := 117) C kz_1 rfl dX4_takeWiths_117
    · have hf := oa_ifp c2 hf
      refine ww_aload_n (pc := 19) (i := 0) C 0 dX4_takeWiths_19 rfl rfl ?_
      obtain ⟨y3, e4, hf⟩ := oa_bind hf
      refine ww_callV (pc := 20) (As := []) (rest := []) (wd := wd_T O t h T V) (ws' := wd_T O t h T V) (rv := (some (.int y3))) C hY_X4_withNamed hV_X4_withNamed lk_X4_162 (m_X4_withNamed _ O t h T V _ e4) [0, 1, 2, 3, 4, 5, 6, 7] 0 rfl rfl rfl rfl rfl (oa_putS _ _ _ rfl) (fun _ h => h) ⟨rfl, rfl⟩ ⟨Nat.zero_le _, Nat.zero_le _⟩ ⟨Nat.le_of_ble_eq_true rfl, Nat.le_of_ble_eq_true rfl⟩ rfl (Nat.le_of_ble_eq_true rfl) rfl rfl dX4_takeWiths_20 ?_
      refine ww_istore (pc := 23) (L' := [(0, .ref (t 0)), (1, .int x1), (2, .int x2), (3, .int x3), (4, .int y3)]) C [1, 2, 3, 4, 0] dX4_takeWiths_23 (Nat.le_of_ble_eq_true rfl) rfl ?_
      refine ww_iload (pc := 25) (i := 4) C 4 dX4_takeWiths_25 rfl ?_
      refine ww_bipush (pc := 27) C dX4_takeWiths_27 kb_m4 ?_
      refine ww_icmp_ne (pc := 29) (tgt := 37) C dX4_takeWiths_29 (by decide) (fun c6 => ?_) (fun c6 => ?_)
      · have hf := oa_ifn c6 hf
        refine ww_iload_n (pc := 37) (i := 2) C 2 dX4_takeWiths_37 rfl rfl ?_
        refine ww_iload (pc := 38) (i := 4) C 4 dX4_takeWiths_38 rfl ?_
        refine ww_ishr (pc := 40) C dX4_takeWiths_40 ?_
        refine ww_iconst (pc := 41) C dX4_takeWiths_41 kc_1 ?_
        refine ww_iand (pc := 42) C dX4_takeWiths_42 ?_
        refine ww_if_eq (pc := 43) (tgt := 56) C dX4_takeWiths_43 (by decide) (fun c7 => ?_) (fun c7 => ?_)
        · have hf := oa_ifp c7 hf
          refine ww_iload_n (pc := 56) (i := 2) C 2 dX4_takeWiths_56 rfl rfl ?_
          refine ww_iconst (pc := 57) C dX4_takeWiths_57 kc_1 ?_
          refine ww_iload (pc := 58) (i := 4) C 4 dX4_takeWiths_58 rfl ?_
          refine ww_ishl (pc := 60) C dX4_takeWiths_60 ?_
          refine ww_ior (pc := 61) C dX4_takeWiths_61 ?_
          obtain ⟨y8, e9, hf⟩ := oa_letE hf
          refine ww_topi C e9 ?_
          refine ww_istore_n (pc := 62) (L' := [(0, .ref (t 0)), (1, .int x1), (2, .int y8), (3, .int x3), (4, .int y3)]) C [1, 2, 0, 3, 4] dX4_takeWiths_62 rfl (Nat.le_of_ble_eq_true rfl) rfl ?_
          refine ww_iload (pc := 63) (i := 4) C 4 dX4_takeWiths_63 rfl ?_
          refine ww_iconst (pc := 65) C dX4_takeWiths_65 kc_3 ?_
          refine ww_icmp_eq (pc := 66) (tgt := 94) C dX4_takeWiths_66 (by decide) (fun c10 => ?_) (fun c10 => ?_)
          · have hf := oa_ifp c10 hf
            exact t_b_X4_takeWiths_94 C x1 T V y8 x3 y3 k4 hk4 hf
          · have hf := oa_ifn c10 hf
            refine ww_aload_n (pc := 69) (i := 0) C 0 dX4_takeWiths_69 rfl rfl ?_
            refine ww_iconst (pc := 70) C dX4_takeWiths_70 kc_0 ?_
            refine ww_iload (pc := 71) (i := 4) C 4 dX4_takeWiths_71 rfl ?_
            refine ww_if_ne (pc := 73) (tgt := 85) C dX4_takeWiths_73 (by decide) (fun c11 => ?_) (fun c11 => ?_)
            · have hf := oa_ifn c11 hf
              refine ww_iconst (pc := 85) C dX4_takeWiths_85 kc_5 ?_
              exact t_b_X4_takeWiths_86 C x1 T V y8 x3 y3 0 5 k4 hk4 hf
            · have hf := oa_ifp c11 hf
              refine ww_gsN (pc := 76) (k := 1) C (by decide) (by decide +kernel : Cond.fieldLinkNest RX4 138 "OneAnger" "MOST" "[I" "OneAnger" ∈ oa_nest) dX4_takeWiths_76 ?_
              refine ww_bipush (pc := 79) C dX4_takeWiths_79 kb_6 ?_
              obtain ⟨y12, e13, hf⟩ := oa_bind hf
              refine ww_tld (pc := 81) (k := 1) C (by decide) e13 dX4_takeWiths_81 ?_
              refine ww_goto (pc := 82) (tgt := 86) C dX4_takeWiths_82 (by decide) ?_
              exact t_b_X4_takeWiths_86 C x1 T V y8 x3 y3 0 y12 k4 hk4 hf
        · have hf := oa_ifn c7 hf
          refine ww_aload_n (pc := 46) (i := 0) C 0 dX4_takeWiths_46 rfl rfl ?_
          refine ww_iconst (pc := 47) C dX4_takeWiths_47 kc_4 ?_
          refine ww_aload_n (pc := 48) (i := 0) C 0 dX4_takeWiths_48 rfl rfl ?_
          refine ww_get (pc := 49) C fl_X4_72 0 rfl rfl dX4_takeWiths_49 ?_
          obtain ⟨y14, T15, e16, hf⟩ := oa_bind2 hf
          refine ww_callV (pc := 52) (As := [.int 4, .int (T 1 6)]) (rest := []) (wd := wd_T O t h T15 V) (ws' := wd_T O t h T15 V) (rv := (some (.int y14))) C hY_X4_fail hV_X4_fail lk_X4_79 (m_X4_fail _ O t h T V 4 (T 1 6) _ e16) [0, 1, 2, 3, 4, 5, 6, 7] 0 rfl rfl rfl rfl rfl rfl (fun _ h => h) ⟨rfl, rfl⟩ ⟨Nat.zero_le _, Nat.zero_le _⟩ ⟨Nat.le_of_ble_eq_true rfl, Nat.le_of_ble_eq_true rfl⟩ rfl (Nat.le_of_ble_eq_true rfl) rfl rfl dX4_takeWiths_52 ?_
          obtain ⟨z18, e19, hf⟩ := oa_bind hf
          have e19 := oa_zc_some e19
          refine ww_topi C e19.1 ?_
          obtain rfl := Option.some.inj hf
          exact ww_zret (pc := 55) C e19.2 rfl dX4_takeWiths_55
      · have hf := oa_ifp c6 hf
        refine ww_aload_n (pc := 32) (i := 0) C 0 dX4_takeWiths_32 rfl rfl ?_
        obtain ⟨y20, T21, e22, hf⟩ := oa_bind2 hf
        refine ww_callV (pc := 33) (As := []) (rest := []) (wd := wd_T O t h T21 V) (ws' := wd_T O t h T21 V) (rv := (some (.int y20))) C hY_X4_misplaced hV_X4_misplaced lk_X4_56 (m_X4_misplaced _ O t h T V _ e22) [0, 1, 2, 3, 4, 5, 6, 7] 0 rfl rfl rfl rfl rfl rfl (fun _ h => h) ⟨rfl, rfl⟩ ⟨Nat.zero_le _, Nat.zero_le _⟩ ⟨Nat.le_of_ble_eq_true rfl, Nat.le_of_ble_eq_true rfl⟩ rfl (Nat.le_of_ble_eq_true rfl) rfl rfl dX4_takeWiths_33 ?_
        obtain ⟨z24, e25, hf⟩ := oa_bind hf
        have e25 := oa_zc_some e25
        refine ww_topi C e25.1 ?_
        obtain rfl := Option.some.inj hf
        exact ww_zret (pc := 36) C e25.2 rfl dX4_takeWiths_36
theorem t_l_X4_takeWiths_4 {G : oa_G} {O : oa_O} {A : Nat → Prop} {t : Nat → Nat} {h : Nat → Nat} {res : Int32 × oa_I2 × oa_I2} (C : oa_C G cX4_takeWiths 5 RX4 (some .boolean) rm_X4_takeWiths O A) (x1 : Int32)    : ∀ (n : Nat) (T : oa_I2) (V : oa_I2) (x2 : Int32) (x3 : Int32), l_X4_takeWiths_4 x1 n T V x2 x3 = some res → ww G 5 O A (oa_Q G O A (0, 0) (some (.int res.1)) (fun W1 => W1 = wd_T O t h res.2.1 res.2.2)) (0, 0) 4 [(0, .ref (t 0)), (1, .int x1), (2, .int x2), (3, .int x3)] [] (wd_T O t h T V) := by
  intro n
  induction n with
  | zero => intro T V x2 x3 hf; exact absurd (show (none : Option (Int32 × oa_I2 × oa_I2)) = some res from hf) (fun h => nomatch h)
  | succ n ih =>
    intro T V x2 x3 hf
    exact t_b_X4_takeWiths_4 C x1  (fun T V x2 x3 => l_X4_takeWiths_4 x1 n T V x2 x3)  (fun T V x2 x3 h => ih T V x2 x3 h) T V x2 x3 hf
theorem m_X4_takeWiths (l : Launch) (O : oa_O) (t : Nat → Nat) (h : Nat → Nat) (T : oa_I2) (V : oa_I2) (x1 : Int32) (res : Int32 × oa_I2 × oa_I2) (hf : f_X4_takeWiths T V x1 = some res) : oa_M l yX4_takeWiths cX4_takeWiths 5 (some .boolean) rm_X4_takeWiths O [.ref (t 0), .int x1] (wd_T O t h T V) (some (.int res.1)) (fun W1 => W1 = wd_T O t h res.2.1 res.2.2) := by
  refine oa_Mof (by decide) (Nat.le_of_ble_eq_true rfl) (fun G A hl C => ?_)
  subst hl
  have C : oa_C G cX4_takeWiths 5 RX4 (some .boolean) rm_X4_takeWiths O A := C
  have hf : f_X4_takeWiths T V x1 = some res := hf
  delta f_X4_takeWiths at hf
  show ww G 5 O A (oa_Q G O A (0, 0) (some (.int res.1)) (fun W1 => W1 = wd_T O t h res.2.1 res.2.2)) (0, 0) 0 [(0, .ref (t 0)), (1, .int x1)] [] (wd_T O t h T V)
  refine ww_iconst (pc := 0) C dX4_takeWiths_0 kc_0 ?_
  refine ww_istore_n (pc := 1) (L' := [(0, .ref (t 0)), (1, .int x1), (2, .int 0)]) C [1, 2, 0] dX4_takeWiths_1 rfl (Nat.le_of_ble_eq_true rfl) rfl ?_
  refine ww_iconst (pc := 2) C dX4_takeWiths_2 kc_0 ?_
  refine ww_istore_n (pc := 3) (L' := [(0, .ref (t 0)), (1, .int x1), (2, .int 0), (3, .int 0)]) C [1, 2, 3, 0] dX4_takeWiths_3 rfl (Nat.le_of_ble_eq_true rfl) rfl ?_
  exact t_l_X4_takeWiths_4 C x1    oa_fu T V 0 0 hf
theorem dX4_takeOne_0 : decode cX4_takeOne 0 = .ok (.aload_n 0, 1) := by decide +kernel
theorem dX4_takeOne_1 : decode cX4_takeOne 1 = .ok (.getfield 18, 3) := by decide +kernel
theorem dX4_takeOne_4 : decode cX4_takeOne 4 = .ok (.getfield 125, 3) := by decide +kernel
theorem dX4_takeOne_7 : decode cX4_takeOne 7 = .ok (.istore_n 1, 1) := by decide +kernel
theorem dX4_takeOne_8 : decode cX4_takeOne 8 = .ok (.iload_n 1, 1) := by decide +kernel
theorem dX4_takeOne_9 : decode cX4_takeOne 9 = .ok (.bipush 6, 2) := by decide +kernel
theorem dX4_takeOne_11 : decode cX4_takeOne 11 = .ok (.if_icmp .lt 13, 3) := by decide +kernel
theorem dX4_takeOne_14 : decode cX4_takeOne 14 = .ok (.aload_n 0, 1) := by decide +kernel
theorem dX4_takeOne_15 : decode cX4_takeOne 15 = .ok (.iconst 5, 1) := by decide +kernel
theorem dX4_takeOne_16 : decode cX4_takeOne 16 = .ok (.aload_n 0, 1) := by decide +kernel
theorem dX4_takeOne_17 : decode cX4_takeOne 17 = .ok (.getfield 72, 3) := by decide +kernel
theorem dX4_takeOne_20 : decode cX4_takeOne 20 = .ok (.invokevirtual 79, 3) := by decide +kernel
theorem dX4_takeOne_23 : decode cX4_takeOne 23 = .ok (.ireturn, 1) := by decide +kernel
theorem dX4_takeOne_24 : decode cX4_takeOne 24 = .ok (.aload_n 0, 1) := by decide +kernel
theorem dX4_takeOne_25 : decode cX4_takeOne 25 = .ok (.invokevirtual 45, 3) := by decide +kernel
theorem dX4_takeOne_28 : decode cX4_takeOne 28 = .ok (.ifCond .ne 5, 3) := by decide +kernel
theorem dX4_takeOne_31 : decode cX4_takeOne 31 = .ok (.iconst 0, 1) := by decide +kernel
theorem dX4_takeOne_32 : decode cX4_takeOne 32 = .ok (.ireturn, 1) := by decide +kernel
theorem dX4_takeOne_33 : decode cX4_takeOne 33 = .ok (.aload_n 0, 1) := by decide +kernel
theorem dX4_takeOne_34 : decode cX4_takeOne 34 = .ok (.invokevirtual 128, 3) := by decide +kernel
theorem dX4_takeOne_37 : decode cX4_takeOne 37 = .ok (.istore_n 2, 1) := by decide +kernel
theorem dX4_takeOne_38 : decode cX4_takeOne 38 = .ok (.iload_n 2, 1) := by decide +kernel
theorem dX4_takeOne_39 : decode cX4_takeOne 39 = .ok (.bipush (-4), 2) := by decide +kernel
theorem dX4_takeOne_41 : decode cX4_takeOne 41 = .ok (.if_icmp .ne 8, 3) := by decide +kernel
theorem dX4_takeOne_44 : decode cX4_takeOne 44 = .ok (.aload_n 0, 1) := by decide +kernel
theorem dX4_takeOne_45 : decode cX4_takeOne 45 = .ok (.invokevirtual 56, 3) := by decide +kernel
theorem dX4_takeOne_48 : decode cX4_takeOne 48 = .ok (.ireturn, 1) := by decide +kernel
theorem dX4_takeOne_49 : decode cX4_takeOne 49 = .ok (.aload_n 0, 1) := by decide +kernel
theorem dX4_takeOne_50 : decode cX4_takeOne 50 = .ok (.getfield 18, 3) := by decide +kernel
theorem dX4_takeOne_53 : decode cX4_takeOne 53 = .ok (.iconst 0, 1) := by decide +kernel
theorem dX4_takeOne_54 : decode cX4_takeOne 54 = .ok (.iload_n 1, 1) := by decide +kernel
theorem dX4_takeOne_55 : decode cX4_takeOne 55 = .ok (.iload_n 2, 1) := by decide +kernel
theorem dX4_takeOne_56 : decode cX4_takeOne 56 = .ok (.invokevirtual 131, 3) := by decide +kernel
theorem dX4_takeOne_59 : decode cX4_takeOne 59 = .ok (.iconst 1, 1) := by decide +kernel
theorem dX4_takeOne_60 : decode cX4_takeOne 60 = .ok (.istore_n 3, 1) := by decide +kernel
theorem dX4_takeOne_61 : decode cX4_takeOne 61 = .ok (.iload_n 3, 1) := by decide +kernel
theorem dX4_takeOne_62 : decode cX4_takeOne 62 = .ok (.iconst 5, 1) := by decide +kernel
theorem dX4_takeOne_63 : decode cX4_takeOne 63 = .ok (.if_icmp .gt 41, 3) := by decide +kernel
theorem dX4_takeOne_66 : decode cX4_takeOne 66 = .ok (.aload_n 0, 1) := by decide +kernel
theorem dX4_takeOne_67 : decode cX4_takeOne 67 = .ok (.getstatic 135, 3) := by decide +kernel
theorem dX4_takeOne_70 : decode cX4_takeOne 70 = .ok (.iload_n 3, 1) := by decide +kernel
theorem dX4_takeOne_71 : decode cX4_takeOne 71 = .ok (.iaload, 1) := by decide +kernel
theorem dX4_takeOne_72 : decode cX4_takeOne 72 = .ok (.getstatic 138, 3) := by decide +kernel
theorem dX4_takeOne_75 : decode cX4_takeOne 75 = .ok (.iload_n 3, 1) := by decide +kernel
theorem dX4_takeOne_76 : decode cX4_takeOne 76 = .ok (.iaload, 1) := by decide +kernel
theorem dX4_takeOne_77 : decode cX4_takeOne 77 = .ok (.invokevirtual 116, 3) := by decide +kernel
theorem dX4_takeOne_80 : decode cX4_takeOne 80 = .ok (.ifCond .ne 5, 3) := by decide +kernel
theorem dX4_takeOne_83 : decode cX4_takeOne 83 = .ok (.iconst 0, 1) := by decide +kernel
theorem dX4_takeOne_84 : decode cX4_takeOne 84 = .ok (.ireturn, 1) := by decide +kernel
theorem dX4_takeOne_85 : decode cX4_takeOne 85 = .ok (.aload_n 0, 1) := by decide +kernel
theorem dX4_takeOne_86 : decode cX4_takeOne 86 = .ok (.getfield 18, 3) := by decide +kernel
theorem dX4_takeOne_89 : decode cX4_takeOne 89 = .ok (.iload_n 3, 1) := by decide +kernel
theorem dX4_takeOne_90 : decode cX4_takeOne 90 = .ok (.iload_n 1, 1) := by decide +kernel
theorem dX4_takeOne_91 : decode cX4_takeOne 91 = .ok (.aload_n 0, 1) := by decide +kernel
theorem dX4_takeOne_92 : decode cX4_takeOne 92 = .ok (.getfield 95, 3) := by decide +kernel
theorem dX4_takeOne_95 : decode cX4_takeOne 95 = .ok (.invokevirtual 131, 3) := by decide +kernel
theorem dX4_takeOne_98 : decode cX4_takeOne 98 = .ok (.iinc 3 1, 3) := by decide +kernel
theorem dX4_takeOne_101 : decode cX4_takeOne 101 = .ok (.goto (-40), 3) := by decide +kernel
theorem dX4_takeOne_104 : decode cX4_takeOne 104 = .ok (.aload_n 0, 1) := by decide +kernel
theorem dX4_takeOne_105 : decode cX4_takeOne 105 = .ok (.getfield 18, 3) := by decide +kernel
theorem dX4_takeOne_108 : decode cX4_takeOne 108 = .ok (.dup, 1) := by decide +kernel
theorem dX4_takeOne_109 : decode cX4_takeOne 109 = .ok (.getfield 125, 3) := by decide +kernel
theorem dX4_takeOne_112 : decode cX4_takeOne 112 = .ok (.iconst 1, 1) := by decide +kernel
theorem dX4_takeOne_113 : decode cX4_takeOne 113 = .ok (.iadd, 1) := by decide +kernel
theorem dX4_takeOne_114 : decode cX4_takeOne 114 = .ok (.putfield 125, 3) := by decide +kernel
theorem dX4_takeOne_117 : decode cX4_takeOne 117 = .ok (.aload_n 0, 1) := by decide +kernel
theorem dX4_takeOne_118 : decode cX4_takeOne 118 = .ok (.invokevirtual 45, 3) := by decide +kernel
theorem dX4_takeOne_121 : decode cX4_takeOne 121 = .ok (.ifCond .eq 22, 3) := by decide +kernel
theorem dX4_takeOne_124 : decode cX4_takeOne 124 = .ok (.aload_n 0, 1) := by decide +kernel
theorem dX4_takeOne_125 : decode cX4_takeOne 125 = .ok (.iload_n 1, 1) := by decide +kernel
theorem dX4_takeOne_126 : decode cX4_takeOne 126 = .ok (.invokevirtual 141, 3) := by decide +kernel
theorem dX4_takeOne_129 : decode cX4_takeOne 129 = .ok (.ifCond .eq 14, 3) := by decide +kernel
theorem dX4_takeOne_132 : decode cX4_takeOne 132 = .ok (.aload_n 0, 1) := by decide +kernel
theorem dX4_takeOne_133 : decode cX4_takeOne 133 = .ok (.invokevirtual 122, 3) := by decide +kernel
theorem dX4_takeOne_136 : decode cX4_takeOne 136 = .ok (.ifCond .eq 7, 3) := by decide +kernel
theorem dX4_takeOne_139 : decode cX4_takeOne 139 = .ok (.iconst 1, 1) := by decide +kernel
theorem dX4_takeOne_140 : decode cX4_takeOne 140 = .ok (.goto 4, 3) := by decide +kernel
theorem dX4_takeOne_143 : decode cX4_takeOne 143 = .ok (.iconst 0, 1) := by decide +kernel
theorem dX4_takeOne_144 : decode cX4_takeOne 144 = .ok (.ireturn, 1) := by decide +kernel
abbrev rm_X4_takeOne : Room := { frames := 7, cells := 0, slots := 0, locals := 151 }
theorem t_b_X4_takeOne_61 {G : oa_G} {O : oa_O} {A : Nat → Prop} {t : Nat → Nat} {h : Nat → Nat} {res : Int32 × oa_I2 × oa_I2} (C : oa_C G cX4_takeOne 4 RX4 (some .boolean) rm_X4_takeOne O A)  (x1 : Int32)   (k61 : oa_I2 → oa_I2 → Int32 → Option (Int32 × oa_I2 × oa_I2))  (hk61 : ∀ (b_T : oa_I2) (b_V : oa_I2) (b_x3 : Int32), k61 b_T b_V b_x3 = some res → ww G 4 O A (oa_Q G O A (0, 0) (some (.int res.1)) (fun W1 => W1 = wd_T O t h res.2.1 res.2.2)) (0, 0) 61 [(0, .ref (t 0)), (1, .int x1), (3, .int b_x3)] [] (wd_T O t h b_T b_V)) (T : oa_I2) (V : oa_I2) (x3 : Int32) (hf : b_X4_takeOne_61 x1 k61 T V x3 = some res) : ww G 4 O A (oa_Q G O A (0, 0) (some (.int res.1)) (fun W1 => W1 = wd_T O t h res.2.1 res.2.2)) (0, 0) 61 [(0, .ref (t 0)), (1, .int x1), (3, .int x3)] [] (wd_T O t h T V) := by
  delta b_X4_takeOne_61 at hf
  refine ww_iload_n (pc := 61) (i := 3) C 2 dX4_takeOne_61 rfl rfl ?_
  refine ww_iconst (pc := 62) C dX4_takeOne_62 kc_5 ?_
  refine ww_icmp_gt (pc := 63) (tgt := 104) C dX4_takeOne_63 (by decide) (fun c28 => ?_) (fun c28 => ?_)
  · have hf := oa_ifp c28 hf
    refine ww_aload_n (pc := 104) (i := 0) C 0 dX4_takeOne_104 rfl rfl ?_
    refine ww_get (pc := 105) C fl_X4_18 0 rfl rfl dX4_takeOne_105 ?_
    refine ww_dup (pc := 108) C dX4_takeOne_108 rfl ?_
    refine ww_get (pc := 109) C fl_X4_125 2 rfl rfl dX4_takeOne_109 ?_
    refine ww_iconst (pc := 112) C dX4_takeOne_112 kc_1 ?_
    refine ww_iadd (pc := 113) C dX4_takeOne_113 ?_
    obtain ⟨V29, e30, hf⟩ := oa_letE hf
    refine ww_put (pc := 114) C fl_X4_125 (fun Z => wd_T O t h T Z) 2 rfl rfl rfl (Nat.le_of_ble_eq_true rfl) e30 rfl dX4_takeOne_114 ?_
    refine ww_aload_n (pc := 117) (i := 0) C 0 dX4_takeOne_117 rfl rfl ?_
    obtain ⟨y31, T32, e33, hf⟩ := oa_bind2 hf
    refine ww_callV (pc := 118) (As := []) (rest := []) (wd := wd_T O t h T32 V29) (ws' := wd_T O t h T32 V29) (rv := (some (.int y31))) C hY_X4_advance hV_X4_advance lk_X4_45 (m_X4_advance _ O t h T V29 _ e33) [0, 1, 2, 3, 4, 5, 6, 7] 0 rfl rfl rfl rfl rfl rfl (fun _ h => h) ⟨rfl, rfl⟩ ⟨Nat.zero_le _, Nat.zero_le _⟩ ⟨Nat.le_of_ble_eq_true rfl, Nat.le_of_ble_eq_true rfl⟩ rfl (Nat.le_of_ble_eq_true rfl) rfl rfl dX4_takeOne_118 ?_
    refine ww_if_eq (pc := 121) (tgt := 143) C dX4_takeOne_121 (by decide) (fun c35 => ?_) (fun c35 => ?_)
    · have hf := oa_ifp c35 hf
      refine ww_iconst (pc := 143) C dX4_takeOne_143 kc_0 ?_
      obtain rfl := Option.some.inj hf
      exact ww_zret (pc := 144) C kz_0 rfl dX4_takeOne_144
    · have hf := oa_ifn c35 hf
      refine ww_aload_n (pc := 124) (i := 0) C 0 dX4_takeOne_124 rfl rfl ?_
      refine ww_iload_n (pc := 125) (i := 1) C 1 dX4_takeOne_125 rfl rfl ?_
      obtain ⟨y36, T37, V38, e39, hf⟩ := oa_bind3 hf
      refine ww_callV (pc := 126) (As := [.int x1]) (rest := []) (wd := wd_T O t h T37 V38) (ws' := wd_T O t h T37 V38) (rv := (some (.int y36))) C hY_X4_takeWiths hV_X4_takeWiths lk_X4_141 (m_X4_takeWiths _ O t h T32 V29 x1 _ e39) [0, 1, 2, 3, 4, 5, 6, 7] 0 rfl rfl rfl rfl rfl rfl (fun _ h => h) ⟨rfl, rfl⟩ ⟨Nat.zero_le _, Nat.zero_le _⟩ ⟨Nat.le_of_ble_eq_true rfl, Nat.le_of_ble_eq_true rfl⟩ rfl (Nat.le_of_ble_eq_true rfl) rfl rfl dX4_takeOne_126 ?_
      refine ww_if_eq (pc := 129) (tgt := 143) C dX4_takeOne_129 (by decide) (fun c41 => ?_) (fun c41 => ?_)
      · have hf := oa_ifp c41 hf
        refine ww_iconst (pc := 143) C dX4_takeOne_143 kc_0 ?_
        obtain rfl := Option.some.inj hf
        exact ww_zret (pc := 144) C kz_0 rfl dX4_takeOne_144
      · have hf := oa_ifn c41 hf
        refine ww_aload_n (pc := 132) (i := 0) C 0 dX4_takeOne_132 rfl rfl ?_
        obtain ⟨y42, T43, e44, hf⟩ := oa_bind2 hf
        refine ww_callV (pc := 133) (As := []) (rest := []) (wd := wd_T O t h T43 V38) (ws' := wd_T O t h T43 V38) (rv := (some (.int y42))) C hY_X4_takeClosing hV_X4_takeClosing lk_X4_122 (m_X4_takeClosing _ O t h T37 V38 _ e44) [0, 1, 2, 3, 4, 5, 6, 7] 0 rfl rfl rfl rfl rfl rfl (fun _ h => h) ⟨rfl, rfl⟩ ⟨Nat.zero_le _, Nat.zero_le _⟩ ⟨Nat.le_of_ble_eq_true rfl, Nat.le_of_ble_eq_true rfl⟩ rfl (Nat.le_of_ble_eq_true rfl) rfl rfl dX4_takeOne_133 ?_
        refine ww_if_eq (pc := 136) (tgt := 143) C dX4_takeOne_136 (by decide) (fun c46 => ?_) (fun c46 => ?_)
        · have hf := oa_ifp c46 hf
          refine ww_iconst (pc := 143) C dX4_takeOne_143 kc_0 ?_
          obtain rfl := Option.some.inj hf
          exact ww_zret (pc := 144) C kz_0 rfl dX4_takeOne_144
        · have hf := oa_ifn c46 hf
          refine ww_iconst (pc := 139) C dX4_takeOne_139 kc_1 ?_
          refine ww_goto (pc := 140) (tgt := 144) C dX4_takeOne_140 (by decide) ?_
          obtain rfl := Option.some.inj hf
          exact ww_zret (pc := 144) C kz_1 rfl dX4_takeOne_144
  · have hf := oa_ifn c28 hf
    refine ww_aload_n (pc := 66) (i := 0) C 0 dX4_takeOne_66 rfl rfl ?_
    refine ww_gsN (pc := 67) (k := 0) C (by decide) (by decide +kernel : Cond.fieldLinkNest RX4 135 "OneAnger" "LEAST" "[I" "OneAnger" ∈ oa_nest) dX4_takeOne_67 ?_
    refine ww_iload_n (pc := 70) (i := 3) C 2 dX4_takeOne_70 rfl rfl ?_
    obtain ⟨y47, e48, hf⟩ := oa_bind hf
    refine ww_tld (pc := 71) (k := 0) C (by decide) e48 dX4_takeOne_71 ?_
    refine ww_gsN (pc := 72) (k := 1) C (by decide) (by decide +kernel : Cond.fieldLinkNest RX4 138 "OneAnger" "MOST" "[I" "OneAnger" ∈ oa_nest) dX4_takeOne_72 ?_
    refine ww_iload_n (pc := 75) (i := 3) C 2 dX4_takeOne_75 rfl rfl ?_
    obtain ⟨y49, e50, hf⟩ := oa_bind hf
    refine ww_tld (pc := 76) (k := 1) C (by decide) e50 dX4_takeOne_76 ?_
    obtain ⟨y51, T52, e53, hf⟩ := oa_bind2 hf
    refine ww_callV (pc := 77) (As := [.int y47, .int y49]) (rest := []) (wd := wd_T O t h T52 V) (ws' := wd_T O t h T52 V) (rv := (some (.int y51))) C hY_X4_takeNumber hV_X4_takeNumber lk_X4_116 (m_X4_takeNumber _ O t h T V y47 y49 _ e53) [0, 1, 2, 3, 4, 5, 6, 7] 0 rfl rfl rfl rfl rfl rfl (fun _ h => h) ⟨rfl, rfl⟩ ⟨Nat.zero_le _, Nat.zero_le _⟩ ⟨Nat.le_of_ble_eq_true rfl, Nat.le_of_ble_eq_true rfl⟩ rfl (Nat.le_of_ble_eq_true rfl) rfl rfl dX4_takeOne_77 ?_
    refine ww_if_ne (pc := 80) (tgt := 85) C dX4_takeOne_80 (by decide) (fun c55 => ?_) (fun c55 => ?_)
    · have hf := oa_ifn c55 hf
      refine ww_aload_n (pc := 85) (i := 0) C 0 dX4_takeOne_85 rfl rfl ?_
      refine ww_get (pc := 86) C fl_X4_18 0 rfl rfl dX4_takeOne_86 ?_
      refine ww_iload_n (pc := 89) (i := 3) C 2 dX4_takeOne_89 rfl rfl ?_
      refine ww_iload_n (pc := 90) (i := 1) C 1 dX4_takeOne_90 rfl rfl ?_
      refine ww_aload_n (pc := 91) (i := 0) C 0 dX4_takeOne_91 rfl rfl ?_
      refine ww_get (pc := 92) C fl_X4_95 0 rfl rfl dX4_takeOne_92 ?_
      obtain ⟨V56, e57, hf⟩ := oa_bind hf
      refine ww_callV (pc := 95) (As := [.int x3, .int x1, .int (T52 1 7)]) (rest := []) (wd := wd_V O h V56) (ws' := wd_T O t h T52 V56) (rv := none) C hY_X5_putTrait hV_X5_putTrait lk_X4_131 (m_X5_putTrait _ O h V x3 x1 (T52 1 7) _ e57) [2, 3, 4, 5, 6, 7] 2 rfl rfl rfl rfl rfl rfl (fun _ h => h) ⟨rfl, rfl⟩ ⟨Nat.zero_le _, Nat.zero_le _⟩ ⟨Nat.le_of_ble_eq_true rfl, Nat.le_of_ble_eq_true rfl⟩ rfl (Nat.le_of_ble_eq_true rfl) rfl rfl dX4_takeOne_95 ?_
      refine ww_iinc (pc := 98) (v := (x3 + 1)) (L' := [(0, .ref (t 0)), (1, .int x1), (3, .int (x3 + 1))]) C 2 [1, 2, 0] dX4_takeOne_98 rfl (ki_1 _) (Nat.le_of_ble_eq_true rfl) rfl ?_
      refine ww_goto (pc := 101) (tgt := 61) C dX4_takeOne_101 (by decide) ?_
      exact hk61 T52 V56 (x3 + 1) hf
    · have hf := oa_ifp c55 hf
      refine ww_iconst (pc := 83) C dX4_takeOne_83 kc_0 ?_
      obtain rfl := Option.some.inj hf
      exact ww_zret (pc := 84) C kz_0 rfl dX4_takeOne_84
theorem t_l_X4_takeOne_61 {G : oa_G} {O : oa_O} {A : Nat → Prop} {t : Nat → Nat} {h : Nat → Nat} {res : Int32 × oa_I2 × oa_I2} (C : oa_C G cX4_takeOne 4 RX4 (some .boolean) rm_X4_takeOne O A)  (x1 : Int32)   : ∀ (n : Nat) (T : oa_I2) (V : oa_I2) (x3 : Int32), l_X4_takeOne_61 x1 n T V x3 = some res → ww G 4 O A (oa_Q G O A (0, 0) (some (.int res.1)) (fun W1 => W1 = wd_T O t h res.2.1 res.2.2)) (0, 0) 61 [(0, .ref (t 0)), (1, .int x1), (3, .int x3)] [] (wd_T O t h T V) := by
  intro n
  induction n with
  | zero => intro T V x3 hf; exact absurd (show (none : Option (Int32 × oa_I2 × oa_I2)) = some res from hf) (fun h => nomatch h)
  | succ n ih =>
    intro T V x3 hf
    exact t_b_X4_takeOne_61 C  x1 (fun T V x3 => l_X4_takeOne_61 x1 n T V x3)  (fun T V x3 h => ih T V x3 h) T V x3 hf
theorem m_X4_takeOne (l : Launch) (O : oa_O) (t : Nat → Nat) (h : Nat → Nat) (T : oa_I2) (V : oa_I2)  (res : Int32 × oa_I2 × oa_I2) (hf : f_X4_takeOne T V = some res) : oa_M l yX4_takeOne cX4_takeOne 4 (some .boolean) rm_X4_takeOne O [.ref (t 0)] (wd_T O t h T V) (some (.int res.1)) (fun W1 => W1 = wd_T O t h res.2.1 res.2.2) := by
  refine oa_Mof (by decide) (Nat.le_of_ble_eq_true rfl) (fun G A hl C => ?_)
  subst hl
  have C : oa_C G cX4_takeOne 4 RX4 (some .boolean) rm_X4_takeOne O A := C
  have hf : f_X4_takeOne T V = some res := hf
  delta f_X4_takeOne at hf
  show ww G 4 O A (oa_Q G O A (0, 0) (some (.int res.1)) (fun W1 => W1 = wd_T O t h res.2.1 res.2.2)) (0, 0) 0 [(0, .ref (t 0))] [] (wd_T O t h T V)
  refine ww_aload_n (pc := 0) (i := 0) C 0 dX4_takeOne_0 rfl rfl ?_
  refine ww_get (pc := 1) C fl_X4_18 0 rfl rfl dX4_takeOne_1 ?_
  refine ww_get (pc := 4) C fl_X4_125 2 rfl rfl dX4_takeOne_4 ?_
  obtain ⟨y1, e2, hf⟩ := oa_letE hf
  refine ww_topi C e2 ?_
  refine ww_istore_n (pc := 7) (L' := [(0, .ref (t 0)), (1, .int y1)]) C [1, 0] dX4_takeOne_7 rfl (Nat.le_of_ble_eq_true rfl) rfl ?_
  refine ww_iload_n (pc := 8) (i := 1) C 1 dX4_takeOne_8 rfl rfl ?_
  refine ww_bipush (pc := 9) C dX4_takeOne_9 kb_6 ?_
  refine ww_icmp_lt (pc := 11) (tgt := 24) C dX4_takeOne_11 (by decide) (fun c3 => ?_) (fun c3 => ?_)
  · have hf := oa_ifp c3 hf
    refine ww_aload_n (pc := 24) (i := 0) C 0 dX4_takeOne_24 rfl rfl ?_
    obtain ⟨y4, T5, e6, hf⟩ := oa_bind2 hf
    refine ww_callV (pc := 25) (As := []) (rest := []) (wd := wd_T O t h T5 V) (ws' := wd_T O t h T5 V) (rv := (some (.int y4))) C hY_X4_advance hV_X4_advance lk_X4_45 (m_X4_advance _ O t h T V _ e6) [0, 1, 2, 3, 4, 5, 6, 7] 0 rfl rfl rfl rfl rfl rfl (fun _ h => h) ⟨rfl, rfl⟩ ⟨Nat.zero_le _, Nat.zero_le _⟩ ⟨Nat.le_of_ble_eq_true rfl, Nat.le_of_ble_eq_true rfl⟩ rfl (Nat.le_of_ble_eq_true rfl) rfl rfl dX4_takeOne_25 ?_
    refine ww_if_ne (pc := 28) (tgt := 33) C dX4_takeOne_28 (by decide) (fun c8 => ?_) (fun c8 => ?_)
    · have hf := oa_ifn c8 hf
      refine ww_aload_n (pc := 33) (i := 0) C 0 dX4_takeOne_33 rfl rfl ?_
      obtain ⟨y9, e10, hf⟩ := oa_bind hf
      refine ww_callV (pc := 34) (As := []) (rest := []) (wd := wd_T O t h T5 V) (ws' := wd_T O t h T5 V) (rv := (some (.int y9))) C hY_X4_sortNamed hV_X4_sortNamed lk_X4_128 (m_X4_sortNamed _ O t h T5 V _ e10) [0, 1, 2, 3, 4, 5, 6, 7] 0 rfl rfl rfl rfl rfl (oa_putS _ _ _ rfl) (fun _ h => h) ⟨rfl, rfl⟩ ⟨Nat.zero_le _, Nat.zero_le _⟩ ⟨Nat.le_of_ble_eq_true rfl, Nat.le_of_ble_eq_true rfl⟩ rfl (Nat.le_of_ble_eq_true rfl) rfl rfl dX4_takeOne_34 ?_
      refine ww_istore_n (pc := 37) (L' := [(0, .ref (t 0)), (1, .int y1), (2, .int y9)]) C [1, 2, 0] dX4_takeOne_37 rfl (Nat.le_of_ble_eq_true rfl) rfl ?_
      refine ww_iload_n (pc := 38) (i := 2) C 2 dX4_takeOne_38 rfl rfl ?_
      refine ww_bipush (pc := 39) C dX4_takeOne_39 kb_m4 ?_
      refine ww_icmp_ne (pc := 41) (tgt := 49) C dX4_takeOne_41 (by decide) (fun c12 => ?_) (fun c12 => ?_)
      · have hf := oa_ifn c12 hf
        refine ww_aload_n (pc := 49) (i := 0) C 0 dX4_takeOne_49 rfl rfl ?_
        refine ww_get (pc := 50) C fl_X4_18 0 rfl rfl dX4_takeOne_50 ?_
        refine ww_iconst (pc := 53) C dX4_takeOne_53 kc_0 ?_
        refine ww_iload_n (pc := 54) (i := 1) C 1 dX4_takeOne_54 rfl rfl ?_
        refine ww_iload_n (pc := 55) (i := 2) C 2 dX4_takeOne_55 rfl rfl ?_
        obtain ⟨V13, e14, hf⟩ := oa_bind hf
        refine ww_callV (pc := 56) (As := [.int 0, .int y1, .int y9]) (rest := []) (wd := wd_V O h V13) (ws' := wd_T O t h T5 V13) (rv := none) C hY_X5_putTrait hV_X5_putTrait lk_X4_131 (m_X5_putTrait _ O h V 0 y1 y9 _ e14) [2, 3, 4, 5, 6, 7] 2 rfl rfl rfl rfl rfl rfl (fun _ h => h) ⟨rfl, rfl⟩ ⟨Nat.zero_le _, Nat.zero_le _⟩ ⟨Nat.le_of_ble_eq_true rfl, Nat.le_of_ble_eq_true rfl⟩ rfl (Nat.le_of_ble_eq_true rfl) rfl rfl dX4_takeOne_56 ?_
        refine ww_iconst (pc := 59) C dX4_takeOne_59 kc_1 ?_
        refine ww_istore_n (pc := 60) (L' := [(0, .ref (t 0)), (1, .int y1), (2, .int y9), (3, .int 1)]) C [1, 2, 3, 0] dX4_takeOne_60 rfl (Nat.le_of_ble_eq_true rfl) rfl ?_
        refine ww_sub C [0, 1, 3] rfl ?_
        exact t_l_X4_takeOne_61 C  y1   oa_fu T5 V13 1 hf
      · have hf := oa_ifp c12 hf
        refine ww_aload_n (pc := 44) (i := 0) C 0 dX4_takeOne_44 rfl rfl ?_
        obtain ⟨y16, T17, e18, hf⟩ := oa_bind2 hf
        refine ww_callV (pc := 45) (As := []) (rest := []) (wd := wd_T O t h T17 V) (ws' := wd_T O t h T17 V) (rv := (some (.int y16))) C hY_X4_misplaced hV_X4_misplaced lk_X4_56 (m_X4_misplaced _ O t h T5 V _ e18) [0, 1, 2, 3, 4, 5, 6, 7] 0 rfl rfl rfl rfl rfl rfl (fun _ h => h) ⟨rfl, rfl⟩ ⟨Nat.zero_le _, Nat.zero_le _⟩ ⟨Nat.le_of_ble_eq_true rfl, Nat.le_of_ble_eq_true rfl⟩ rfl (Nat.le_of_ble_eq_true rfl) rfl rfl dX4_takeOne_45 ?_
        obtain ⟨z20, e21, hf⟩ := oa_bind hf
        have e21 := oa_zc_some e21
        refine ww_topi C e21.1 ?_
        obtain rfl := Option.some.inj hf
        exact ww_zret (pc := 48) C e21.2 rfl dX4_takeOne_48
    · have hf := oa_ifp c8 hf
      refine ww_iconst (pc := 31) C dX4_takeOne_31 kc_0 ?_
      obtain rfl := Option.some.inj hf
      exact ww_zret (pc := 32) C kz_0 rfl dX4_takeOne_32
  · have hf := oa_ifn c3 hf
    refine ww_aload_n (pc := 14) (i := 0) C 0 dX4_takeOne_14 rfl rfl ?_
    refine ww_iconst (pc := 15) C dX4_takeOne_15 kc_5 ?_
    refine ww_aload_n (pc := 16) (i := 0) C 0 dX4_takeOne_16 rfl rfl ?_
    refine ww_get (pc := 17) C fl_X4_72 0 rfl rfl dX4_takeOne_17 ?_
    obtain ⟨y22, T23, e24, hf⟩ := oa_bind2 hf
    refine ww_callV (pc := 20) (As := [.int 5, .int (T 1 6)]) (rest := []) (wd := wd_T O t h T23 V) (ws' := wd_T O t h T23 V) (rv := (some (.int y22))) C hY_X4_fail hV_X4_fail lk_X4_79 (m_X4_fail _ O t h T V 5 (T 1 6) _ e24) [0, 1, 2, 3, 4, 5, 6, 7] 0 rfl rfl rfl rfl rfl rfl (fun _ h => h) ⟨rfl, rfl⟩ ⟨Nat.zero_le _, Nat.zero_le _⟩ ⟨Nat.le_of_ble_eq_true rfl, Nat.le_of_ble_eq_true rfl⟩ rfl (Nat.le_of_ble_eq_true rfl) rfl rfl dX4_takeOne_20 ?_
    obtain ⟨z26, e27, hf⟩ := oa_bind hf
    have e27 := oa_zc_some e27
    refine ww_topi C e27.1 ?_
    obtain rfl := Option.some.inj hf
    exact ww_zret (pc := 23) C e27.2 rfl dX4_takeOne_23
theorem dX4_takeRule_0 : decode cX4_takeRule 0 = .ok (.aload_n 0, 1) := by decide +kernel
theorem dX4_takeRule_1 : decode cX4_takeRule 1 = .ok (.getfield 42, 3) := by decide +kernel
theorem dX4_takeRule_4 : decode cX4_takeRule 4 = .ok (.iload_n 1, 1) := by decide +kernel
theorem dX4_takeRule_5 : decode cX4_takeRule 5 = .ok (.ishr, 1) := by decide +kernel
theorem dX4_takeRule_6 : decode cX4_takeRule 6 = .ok (.iconst 1, 1) := by decide +kernel
theorem dX4_takeRule_7 : decode cX4_takeRule 7 = .ok (.iand, 1) := by decide +kernel
theorem dX4_takeRule_8 : decode cX4_takeRule 8 = .ok (.ifCond .eq 13, 3) := by decide +kernel
theorem dX4_takeRule_11 : decode cX4_takeRule 11 = .ok (.aload_n 0, 1) := by decide +kernel
theorem dX4_takeRule_12 : decode cX4_takeRule 12 = .ok (.iconst 4, 1) := by decide +kernel
theorem dX4_takeRule_13 : decode cX4_takeRule 13 = .ok (.aload_n 0, 1) := by decide +kernel
theorem dX4_takeRule_14 : decode cX4_takeRule 14 = .ok (.getfield 72, 3) := by decide +kernel
theorem dX4_takeRule_17 : decode cX4_takeRule 17 = .ok (.invokevirtual 79, 3) := by decide +kernel
theorem dX4_takeRule_20 : decode cX4_takeRule 20 = .ok (.ireturn, 1) := by decide +kernel
theorem dX4_takeRule_21 : decode cX4_takeRule 21 = .ok (.aload_n 0, 1) := by decide +kernel
theorem dX4_takeRule_22 : decode cX4_takeRule 22 = .ok (.dup, 1) := by decide +kernel
theorem dX4_takeRule_23 : decode cX4_takeRule 23 = .ok (.getfield 42, 3) := by decide +kernel
theorem dX4_takeRule_26 : decode cX4_takeRule 26 = .ok (.iconst 1, 1) := by decide +kernel
theorem dX4_takeRule_27 : decode cX4_takeRule 27 = .ok (.iload_n 1, 1) := by decide +kernel
theorem dX4_takeRule_28 : decode cX4_takeRule 28 = .ok (.ishl, 1) := by decide +kernel
theorem dX4_takeRule_29 : decode cX4_takeRule 29 = .ok (.ior, 1) := by decide +kernel
theorem dX4_takeRule_30 : decode cX4_takeRule 30 = .ok (.putfield 42, 3) := by decide +kernel
theorem dX4_takeRule_33 : decode cX4_takeRule 33 = .ok (.aload_n 0, 1) := by decide +kernel
theorem dX4_takeRule_34 : decode cX4_takeRule 34 = .ok (.getstatic 110, 3) := by decide +kernel
theorem dX4_takeRule_37 : decode cX4_takeRule 37 = .ok (.iload_n 1, 1) := by decide +kernel
theorem dX4_takeRule_38 : decode cX4_takeRule 38 = .ok (.iaload, 1) := by decide +kernel
theorem dX4_takeRule_39 : decode cX4_takeRule 39 = .ok (.getstatic 113, 3) := by decide +kernel
theorem dX4_takeRule_42 : decode cX4_takeRule 42 = .ok (.iload_n 1, 1) := by decide +kernel
theorem dX4_takeRule_43 : decode cX4_takeRule 43 = .ok (.iaload, 1) := by decide +kernel
theorem dX4_takeRule_44 : decode cX4_takeRule 44 = .ok (.invokevirtual 116, 3) := by decide +kernel
theorem dX4_takeRule_47 : decode cX4_takeRule 47 = .ok (.ifCond .ne 5, 3) := by decide +kernel
theorem dX4_takeRule_50 : decode cX4_takeRule 50 = .ok (.iconst 0, 1) := by decide +kernel
theorem dX4_takeRule_51 : decode cX4_takeRule 51 = .ok (.ireturn, 1) := by decide +kernel
theorem dX4_takeRule_52 : decode cX4_takeRule 52 = .ok (.aload_n 0, 1) := by decide +kernel
theorem dX4_takeRule_53 : decode cX4_takeRule 53 = .ok (.getfield 18, 3) := by decide +kernel
theorem dX4_takeRule_56 : decode cX4_takeRule 56 = .ok (.getfield 119, 3) := by decide +kernel
theorem dX4_takeRule_59 : decode cX4_takeRule 59 = .ok (.iload_n 1, 1) := by decide +kernel
theorem dX4_takeRule_60 : decode cX4_takeRule 60 = .ok (.aload_n 0, 1) := by decide +kernel
theorem dX4_takeRule_61 : decode cX4_takeRule 61 = .ok (.getfield 95, 3) := by decide +kernel
theorem dX4_takeRule_64 : decode cX4_takeRule 64 = .ok (.iastore, 1) := by decide +kernel
theorem dX4_takeRule_65 : decode cX4_takeRule 65 = .ok (.aload_n 0, 1) := by decide +kernel
theorem dX4_takeRule_66 : decode cX4_takeRule 66 = .ok (.invokevirtual 45, 3) := by decide +kernel
theorem dX4_takeRule_69 : decode cX4_takeRule 69 = .ok (.ifCond .eq 14, 3) := by decide +kernel
theorem dX4_takeRule_72 : decode cX4_takeRule 72 = .ok (.aload_n 0, 1) := by decide +kernel
theorem dX4_takeRule_73 : decode cX4_takeRule 73 = .ok (.invokevirtual 122, 3) := by decide +kernel
theorem dX4_takeRule_76 : decode cX4_takeRule 76 = .ok (.ifCond .eq 7, 3) := by decide +kernel
theorem dX4_takeRule_79 : decode cX4_takeRule 79 = .ok (.iconst 1, 1) := by decide +kernel
theorem dX4_takeRule_80 : decode cX4_takeRule 80 = .ok (.goto 4, 3) := by decide +kernel
theorem dX4_takeRule_83 : decode cX4_takeRule 83 = .ok (.iconst 0, 1) := by decide +kernel
theorem dX4_takeRule_84 : decode cX4_takeRule 84 = .ok (.ireturn, 1) := by decide +kernel
abbrev rm_X4_takeRule : Room := { frames := 3, cells := 0, slots := 0, locals := 64 }
theorem m_X4_takeRule (l : Launch) (O : oa_O) (t : Nat → Nat) (h : Nat → Nat) (T : oa_I2) (V : oa_I2) (x1 : Int32) (res : Int32 × oa_I2 × oa_I2) (hf : f_X4_takeRule T V x1 = some res) : oa_M l yX4_takeRule cX4_takeRule 2 (some .boolean) rm_X4_takeRule O [.ref (t 0), .int x1] (wd_T O t h T V) (some (.int res.1)) (fun W1 => W1 = wd_T O t h res.2.1 res.2.2) := by
  refine oa_Mof (by decide) (Nat.le_of_ble_eq_true rfl) (fun G A hl C => ?_)
  subst hl
  have C : oa_C G cX4_takeRule 2 RX4 (some .boolean) rm_X4_takeRule O A := C
  have hf : f_X4_takeRule T V x1 = some res := hf
  delta f_X4_takeRule at hf
  show ww G 2 O A (oa_Q G O A (0, 0) (some (.int res.1)) (fun W1 => W1 = wd_T O t h res.2.1 res.2.2)) (0, 0) 0 [(0, .ref (t 0)), (1, .int x1)] [] (wd_T O t h T V)
  refine ww_aload_n (pc := 0) (i := 0) C 0 dX4_takeRule_0 rfl rfl ?_
  refine ww_get (pc := 1) C fl_X4_42 0 rfl rfl dX4_takeRule_1 ?_
  refine ww_iload_n (pc := 4) (i := 1) C 1 dX4_takeRule_4 rfl rfl ?_
  refine ww_ishr (pc := 5) C dX4_takeRule_5 ?_
  refine ww_iconst (pc := 6) C dX4_takeRule_6 kc_1 ?_
  refine ww_iand (pc := 7) C dX4_takeRule_7 ?_
  refine ww_if_eq (pc := 8) (tgt := 21) C dX4_takeRule_8 (by decide) (fun c1 => ?_) (fun c1 => ?_)
  · have hf := oa_ifp c1 hf
    refine ww_aload_n (pc := 21) (i := 0) C 0 dX4_takeRule_21 rfl rfl ?_
    refine ww_dup (pc := 22) C dX4_takeRule_22 rfl ?_
    refine ww_get (pc := 23) C fl_X4_42 0 rfl rfl dX4_takeRule_23 ?_
    refine ww_iconst (pc := 26) C dX4_takeRule_26 kc_1 ?_
    refine ww_iload_n (pc := 27) (i := 1) C 1 dX4_takeRule_27 rfl rfl ?_
    refine ww_ishl (pc := 28) C dX4_takeRule_28 ?_
    refine ww_ior (pc := 29) C dX4_takeRule_29 ?_
    obtain ⟨T2, e3, hf⟩ := oa_letE hf
    refine ww_put (pc := 30) C fl_X4_42 (fun Z => wd_T O t h Z V) 0 rfl rfl rfl (Nat.le_of_ble_eq_true rfl) e3 rfl dX4_takeRule_30 ?_
    refine ww_aload_n (pc := 33) (i := 0) C 0 dX4_takeRule_33 rfl rfl ?_
    refine ww_gsN (pc := 34) (k := 3) C (by decide) (by decide +kernel : Cond.fieldLinkNest RX4 110 "OneAnger" "RULE_LEAST" "[I" "OneAnger" ∈ oa_nest) dX4_takeRule_34 ?_
    refine ww_iload_n (pc := 37) (i := 1) C 1 dX4_takeRule_37 rfl rfl ?_
    obtain ⟨y4, e5, hf⟩ := oa_bind hf
    refine ww_tld (pc := 38) (k := 3) C (by decide) e5 dX4_takeRule_38 ?_
    refine ww_gsN (pc := 39) (k := 4) C (by decide) (by decide +kernel : Cond.fieldLinkNest RX4 113 "OneAnger" "RULE_MOST" "[I" "OneAnger" ∈ oa_nest) dX4_takeRule_39 ?_
    refine ww_iload_n (pc := 42) (i := 1) C 1 dX4_takeRule_42 rfl rfl ?_
    obtain ⟨y6, e7, hf⟩ := oa_bind hf
    refine ww_tld (pc := 43) (k := 4) C (by decide) e7 dX4_takeRule_43 ?_
    obtain ⟨y8, T9, e10, hf⟩ := oa_bind2 hf
    refine ww_callV (pc := 44) (As := [.int y4, .int y6]) (rest := []) (wd := wd_T O t h T9 V) (ws' := wd_T O t h T9 V) (rv := (some (.int y8))) C hY_X4_takeNumber hV_X4_takeNumber lk_X4_116 (m_X4_takeNumber _ O t h T2 V y4 y6 _ e10) [0, 1, 2, 3, 4, 5, 6, 7] 0 rfl rfl rfl rfl rfl rfl (fun _ h => h) ⟨rfl, rfl⟩ ⟨Nat.zero_le _, Nat.zero_le _⟩ ⟨Nat.le_of_ble_eq_true rfl, Nat.le_of_ble_eq_true rfl⟩ rfl (Nat.le_of_ble_eq_true rfl) rfl rfl dX4_takeRule_44 ?_
    refine ww_if_ne (pc := 47) (tgt := 52) C dX4_takeRule_47 (by decide) (fun c12 => ?_) (fun c12 => ?_)
    · have hf := oa_ifn c12 hf
      refine ww_aload_n (pc := 52) (i := 0) C 0 dX4_takeRule_52 rfl rfl ?_
      refine ww_get (pc := 53) C fl_X4_18 0 rfl rfl dX4_takeRule_53 ?_
      refine ww_get (pc := 56) C fl_X4_119 2 rfl rfl dX4_takeRule_56 ?_
      refine ww_iload_n (pc := 59) (i := 1) C 1 dX4_takeRule_59 rfl rfl ?_
      refine ww_aload_n (pc := 60) (i := 0) C 0 dX4_takeRule_60 rfl rfl ?_
      refine ww_get (pc := 61) C fl_X4_95 0 rfl rfl dX4_takeRule_61 ?_
      obtain ⟨g13, e14, hf⟩ := oa_bind hf
      obtain ⟨V15, e16, hf⟩ := oa_letE hf
      refine ww_iast (pc := 64) C (fun Z => wd_T O t h T9 Z) 3 rfl e14 e16 rfl dX4_takeRule_64 ?_
      refine ww_aload_n (pc := 65) (i := 0) C 0 dX4_takeRule_65 rfl rfl ?_
      obtain ⟨y17, T18, e19, hf⟩ := oa_bind2 hf
      refine ww_callV (pc := 66) (As := []) (rest := []) (wd := wd_T O t h T18 V15) (ws' := wd_T O t h T18 V15) (rv := (some (.int y17))) C hY_X4_advance hV_X4_advance lk_X4_45 (m_X4_advance _ O t h T9 V15 _ e19) [0, 1, 2, 3, 4, 5, 6, 7] 0 rfl rfl rfl rfl rfl rfl (fun _ h => h) ⟨rfl, rfl⟩ ⟨Nat.zero_le _, Nat.zero_le _⟩ ⟨Nat.le_of_ble_eq_true rfl, Nat.le_of_ble_eq_true rfl⟩ rfl (Nat.le_of_ble_eq_true rfl) rfl rfl dX4_takeRule_66 ?_
      refine ww_if_eq (pc := 69) (tgt := 83) C dX4_takeRule_69 (by decide) (fun c21 => ?_) (fun c21 => ?_)
      · have hf := oa_ifp c21 hf
        refine ww_iconst (pc := 83) C dX4_takeRule_83 kc_0 ?_
        obtain rfl := Option.some.inj hf
        exact ww_zret (pc := 84) C kz_0 rfl dX4_takeRule_84
      · have hf := oa_ifn c21 hf
        refine ww_aload_n (pc := 72) (i := 0) C 0 dX4_takeRule_72 rfl rfl ?_
        obtain ⟨y22, T23, e24, hf⟩ := oa_bind2 hf
        refine ww_callV (pc := 73) (As := []) (rest := []) (wd := wd_T O t h T23 V15) (ws' := wd_T O t h T23 V15) (rv := (some (.int y22))) C hY_X4_takeClosing hV_X4_takeClosing lk_X4_122 (m_X4_takeClosing _ O t h T18 V15 _ e24) [0, 1, 2, 3, 4, 5, 6, 7] 0 rfl rfl rfl rfl rfl rfl (fun _ h => h) ⟨rfl, rfl⟩ ⟨Nat.zero_le _, Nat.zero_le _⟩ ⟨Nat.le_of_ble_eq_true rfl, Nat.le_of_ble_eq_true rfl⟩ rfl (Nat.le_of_ble_eq_true rfl) rfl rfl dX4_takeRule_73 ?_
        refine ww_if_eq (pc := 76) (tgt := 83) C dX4_takeRule_76 (by decide) (fun c26 => ?_) (fun c26 => ?_)
        · have hf := oa_ifp c26 hf
          refine ww_iconst (pc := 83) C dX4_takeRule_83 kc_0 ?_
          obtain rfl := Option.some.inj hf
          exact ww_zret (pc := 84) C kz_0 rfl dX4_takeRule_84
        · have hf := oa_ifn c26 hf
          refine ww_iconst (pc := 79) C dX4_takeRule_79 kc_1 ?_
          refine ww_goto (pc := 80) (tgt := 84) C dX4_takeRule_80 (by decide) ?_
          obtain rfl := Option.some.inj hf
          exact ww_zret (pc := 84) C kz_1 rfl dX4_takeRule_84
    · have hf := oa_ifp c12 hf
      refine ww_iconst (pc := 50) C dX4_takeRule_50 kc_0 ?_
      obtain rfl := Option.some.inj hf
      exact ww_zret (pc := 51) C kz_0 rfl dX4_takeRule_51
  · have hf := oa_ifn c1 hf
    refine ww_aload_n (pc := 11) (i := 0) C 0 dX4_takeRule_11 rfl rfl ?_
    refine ww_iconst (pc := 12) C dX4_takeRule_12 kc_4 ?_
    refine ww_aload_n (pc := 13) (i := 0) C 0 dX4_takeRule_13 rfl rfl ?_
    refine ww_get (pc := 14) C fl_X4_72 0 rfl rfl dX4_takeRule_14 ?_
    obtain ⟨y27, T28, e29, hf⟩ := oa_bind2 hf
    refine ww_callV (pc := 17) (As := [.int 4, .int (T 1 6)]) (rest := []) (wd := wd_T O t h T28 V) (ws' := wd_T O t h T28 V) (rv := (some (.int y27))) C hY_X4_fail hV_X4_fail lk_X4_79 (m_X4_fail _ O t h T V 4 (T 1 6) _ e29) [0, 1, 2, 3, 4, 5, 6, 7] 0 rfl rfl rfl rfl rfl rfl (fun _ h => h) ⟨rfl, rfl⟩ ⟨Nat.zero_le _, Nat.zero_le _⟩ ⟨Nat.le_of_ble_eq_true rfl, Nat.le_of_ble_eq_true rfl⟩ rfl (Nat.le_of_ble_eq_true rfl) rfl rfl dX4_takeRule_17 ?_
    obtain ⟨z31, e32, hf⟩ := oa_bind hf
    have e32 := oa_zc_some e32
    refine ww_topi C e32.1 ?_
    obtain rfl := Option.some.inj hf
    exact ww_zret (pc := 20) C e32.2 rfl dX4_takeRule_20
theorem dX4_tell_0 : decode cX4_tell 0 = .ok (.aload_n 0, 1) := by decide +kernel
theorem dX4_tell_1 : decode cX4_tell 1 = .ok (.getfield 18, 3) := by decide +kernel
theorem dX4_tell_4 : decode cX4_tell 4 = .ok (.invokevirtual 30, 3) := by decide +kernel
theorem dX4_tell_7 : decode cX4_tell 7 = .ok (.aload_n 0, 1) := by decide +kernel
theorem dX4_tell_8 : decode cX4_tell 8 = .ok (.iconst 0, 1) := by decide +kernel
theorem dX4_tell_9 : decode cX4_tell 9 = .ok (.putfield 33, 3) := by decide +kernel
theorem dX4_tell_12 : decode cX4_tell 12 = .ok (.aload_n 0, 1) := by decide +kernel
theorem dX4_tell_13 : decode cX4_tell 13 = .ok (.iconst 0, 1) := by decide +kernel
theorem dX4_tell_14 : decode cX4_tell 14 = .ok (.putfield 36, 3) := by decide +kernel
theorem dX4_tell_17 : decode cX4_tell 17 = .ok (.aload_n 0, 1) := by decide +kernel
theorem dX4_tell_18 : decode cX4_tell 18 = .ok (.iconst 0, 1) := by decide +kernel
theorem dX4_tell_19 : decode cX4_tell 19 = .ok (.putfield 39, 3) := by decide +kernel
theorem dX4_tell_22 : decode cX4_tell 22 = .ok (.aload_n 0, 1) := by decide +kernel
theorem dX4_tell_23 : decode cX4_tell 23 = .ok (.iconst 0, 1) := by decide +kernel
theorem dX4_tell_24 : decode cX4_tell 24 = .ok (.putfield 42, 3) := by decide +kernel
theorem dX4_tell_27 : decode cX4_tell 27 = .ok (.aload_n 0, 1) := by decide +kernel
theorem dX4_tell_28 : decode cX4_tell 28 = .ok (.invokevirtual 45, 3) := by decide +kernel
theorem dX4_tell_31 : decode cX4_tell 31 = .ok (.istore_n 1, 1) := by decide +kernel
theorem dX4_tell_32 : decode cX4_tell 32 = .ok (.iconst 0, 1) := by decide +kernel
theorem dX4_tell_33 : decode cX4_tell 33 = .ok (.istore_n 2, 1) := by decide +kernel
theorem dX4_tell_34 : decode cX4_tell 34 = .ok (.iload_n 2, 1) := by decide +kernel
theorem dX4_tell_35 : decode cX4_tell 35 = .ok (.sipush 320, 3) := by decide +kernel
theorem dX4_tell_38 : decode cX4_tell 38 = .ok (.if_icmp .ge 57, 3) := by decide +kernel
theorem dX4_tell_41 : decode cX4_tell 41 = .ok (.iload_n 1, 1) := by decide +kernel
theorem dX4_tell_42 : decode cX4_tell 42 = .ok (.ifCond .eq 53, 3) := by decide +kernel
theorem dX4_tell_45 : decode cX4_tell 45 = .ok (.aload_n 0, 1) := by decide +kernel
theorem dX4_tell_46 : decode cX4_tell 46 = .ok (.getfield 49, 3) := by decide +kernel
theorem dX4_tell_49 : decode cX4_tell 49 = .ok (.ifCond .eq 46, 3) := by decide +kernel
theorem dX4_tell_52 : decode cX4_tell 52 = .ok (.aload_n 0, 1) := by decide +kernel
theorem dX4_tell_53 : decode cX4_tell 53 = .ok (.invokevirtual 52, 3) := by decide +kernel
theorem dX4_tell_56 : decode cX4_tell 56 = .ok (.istore_n 3, 1) := by decide +kernel
theorem dX4_tell_57 : decode cX4_tell 57 = .ok (.iload_n 3, 1) := by decide +kernel
theorem dX4_tell_58 : decode cX4_tell 58 = .ok (.bipush (-4), 2) := by decide +kernel
theorem dX4_tell_60 : decode cX4_tell 60 = .ok (.if_icmp .ne 11, 3) := by decide +kernel
theorem dX4_tell_63 : decode cX4_tell 63 = .ok (.aload_n 0, 1) := by decide +kernel
theorem dX4_tell_64 : decode cX4_tell 64 = .ok (.invokevirtual 56, 3) := by decide +kernel
theorem dX4_tell_67 : decode cX4_tell 67 = .ok (.istore_n 1, 1) := by decide +kernel
theorem dX4_tell_68 : decode cX4_tell 68 = .ok (.goto 21, 3) := by decide +kernel
theorem dX4_tell_71 : decode cX4_tell 71 = .ok (.iload_n 3, 1) := by decide +kernel
theorem dX4_tell_72 : decode cX4_tell 72 = .ok (.iconst 3, 1) := by decide +kernel
theorem dX4_tell_73 : decode cX4_tell 73 = .ok (.if_icmp .ne 10, 3) := by decide +kernel
theorem dX4_tell_76 : decode cX4_tell 76 = .ok (.aload_n 0, 1) := by decide +kernel
theorem dX4_tell_77 : decode cX4_tell 77 = .ok (.invokevirtual 59, 3) := by decide +kernel
theorem dX4_tell_80 : decode cX4_tell 80 = .ok (.goto 8, 3) := by decide +kernel
theorem dX4_tell_83 : decode cX4_tell 83 = .ok (.aload_n 0, 1) := by decide +kernel
theorem dX4_tell_84 : decode cX4_tell 84 = .ok (.iload_n 3, 1) := by decide +kernel
theorem dX4_tell_85 : decode cX4_tell 85 = .ok (.invokevirtual 62, 3) := by decide +kernel
theorem dX4_tell_88 : decode cX4_tell 88 = .ok (.istore_n 1, 1) := by decide +kernel
theorem dX4_tell_89 : decode cX4_tell 89 = .ok (.iinc 2 1, 3) := by decide +kernel
theorem dX4_tell_92 : decode cX4_tell 92 = .ok (.goto (-58), 3) := by decide +kernel
theorem dX4_tell_95 : decode cX4_tell 95 = .ok (.iload_n 1, 1) := by decide +kernel
theorem dX4_tell_96 : decode cX4_tell 96 = .ok (.ifCond .eq 7, 3) := by decide +kernel
theorem dX4_tell_99 : decode cX4_tell 99 = .ok (.aload_n 0, 1) := by decide +kernel
theorem dX4_tell_100 : decode cX4_tell 100 = .ok (.invokevirtual 66, 3) := by decide +kernel
theorem dX4_tell_103 : decode cX4_tell 103 = .ok (.aload_n 0, 1) := by decide +kernel
theorem dX4_tell_104 : decode cX4_tell 104 = .ok (.iconst 0, 1) := by decide +kernel
theorem dX4_tell_105 : decode cX4_tell 105 = .ok (.putfield 22, 3) := by decide +kernel
theorem dX4_tell_108 : decode cX4_tell 108 = .ok (.return_, 1) := by decide +kernel
abbrev rm_X4_tell : Room := { frames := 8, cells := 0, slots := 0, locals := 174 }
theorem t_b_X4_tell_103 {G : oa_G} {O : oa_O} {A : Nat → Prop} {t : Nat → Nat} {h : Nat → Nat} {res : oa_I2 × oa_I2} (C : oa_C G cX4_tell 4 RX4 none rm_X4_tell O A)   (T : oa_I2) (V : oa_I2)    (hf : b_X4_tell_103 T V = some res) : ww G 4 O A (oa_Q G O A (0, 0) none (fun W1 => W1 = wd_T O t h res.1 res.2)) (0, 0) 103 [(0, .ref (t 0))] [] (wd_T O t h T V) := by
  delta b_X4_tell_103 at hf
  refine ww_aload_n (pc := 103) (i := 0) C 0 dX4_tell_103 rfl rfl ?_
  refine ww_iconst (pc := 104) C dX4_tell_104 kc_0 ?_
  obtain ⟨T42, e43, hf⟩ := oa_letE hf
  refine ww_put (pc := 105) C fl_X4_22 (fun Z => wd_T O t h Z V) 0 rfl rfl rfl (Nat.le_of_ble_eq_true rfl) e43 rfl dX4_tell_105 ?_
  obtain rfl := Option.some.inj hf
  exact ww_vret (pc := 108) C rfl dX4_tell_108
theorem t_b_X4_tell_95 {G : oa_G} {O : oa_O} {A : Nat → Prop} {t : Nat → Nat} {h : Nat → Nat} {res : oa_I2 × oa_I2} (C : oa_C G cX4_tell 4 RX4 none rm_X4_tell O A)   (T : oa_I2) (V : oa_I2) (x1 : Int32)    (hf : b_X4_tell_95 T V x1 = some res) : ww G 4 O A (oa_Q G O A (0, 0) none (fun W1 => W1 = wd_T O t h res.1 res.2)) (0, 0) 95 [(0, .ref (t 0)), (1, .int x1)] [] (wd_T O t h T V) := by
  delta b_X4_tell_95 at hf
  refine ww_iload_n (pc := 95) (i := 1) C 1 dX4_tell_95 rfl rfl ?_
  refine ww_if_eq (pc := 96) (tgt := 103) C dX4_tell_96 (by decide) (fun c38 => ?_) (fun c38 => ?_)
  · have hf := oa_ifp c38 hf
    refine ww_sub C [0] rfl ?_
    exact t_b_X4_tell_103 C  T V   hf
  · have hf := oa_ifn c38 hf
    refine ww_aload_n (pc := 99) (i := 0) C 0 dX4_tell_99 rfl rfl ?_
    obtain ⟨T39, e40, hf⟩ := oa_bind hf
    refine ww_callV (pc := 100) (As := []) (rest := []) (wd := wd_T O t h T39 V) (ws' := wd_T O t h T39 V) (rv := none) C hY_X4_checkAll hV_X4_checkAll lk_X4_66 (m_X4_checkAll _ O t h T V _ e40) [0, 1, 2, 3, 4, 5, 6, 7] 0 rfl rfl rfl rfl rfl rfl (fun _ h => h) ⟨rfl, rfl⟩ ⟨Nat.zero_le _, Nat.zero_le _⟩ ⟨Nat.le_of_ble_eq_true rfl, Nat.le_of_ble_eq_true rfl⟩ rfl (Nat.le_of_ble_eq_true rfl) rfl rfl dX4_tell_100 ?_
    refine ww_sub C [0] rfl ?_
    exact t_b_X4_tell_103 C  T39 V   hf
theorem t_b_X4_tell_34 {G : oa_G} {O : oa_O} {A : Nat → Prop} {t : Nat → Nat} {h : Nat → Nat} {res : oa_I2 × oa_I2} (C : oa_C G cX4_tell 4 RX4 none rm_X4_tell O A)     (k34 : oa_I2 → oa_I2 → Int32 → Int32 → Option (oa_I2 × oa_I2))  (hk34 : ∀ (b_T : oa_I2) (b_V : oa_I2) (b_x1 : Int32) (b_x2 : Int32), k34 b_T b_V b_x1 b_x2 = some res → ww G 4 O A (oa_Q G O A (0, 0) none (fun W1 => W1 = wd_T O t h res.1 res.2)) (0, 0) 34 [(0, .ref (t 0)), (1, .int b_x1), (2, .int b_x2)] [] (wd_T O t h b_T b_V)) (T : oa_I2) (V : oa_I2) (x1 : Int32) (x2 : Int32) (hf : b_X4_tell_34 k34 T V x1 x2 = some res) : ww G 4 O A (oa_Q G O A (0, 0) none (fun W1 => W1 = wd_T O t h res.1 res.2)) (0, 0) 34 [(0, .ref (t 0)), (1, .int x1), (2, .int x2)] [] (wd_T O t h T V) := by
  delta b_X4_tell_34 at hf
  refine ww_iload_n (pc := 34) (i := 2) C 2 dX4_tell_34 rfl rfl ?_
  refine ww_sipush (pc := 35) C dX4_tell_35 ks_320 ?_
  refine ww_icmp_ge (pc := 38) (tgt := 95) C dX4_tell_38 (by decide) (fun c16 => ?_) (fun c16 => ?_)
  · have hf := oa_ifp c16 hf
    refine ww_sub C [0, 1] rfl ?_
    exact t_b_X4_tell_95 C  T V x1   hf
  · have hf := oa_ifn c16 hf
    refine ww_iload_n (pc := 41) (i := 1) C 1 dX4_tell_41 rfl rfl ?_
    refine ww_if_eq (pc := 42) (tgt := 95) C dX4_tell_42 (by decide) (fun c17 => ?_) (fun c17 => ?_)
    · have hf := oa_ifp c17 hf
      refine ww_sub C [0, 1] rfl ?_
      exact t_b_X4_tell_95 C  T V x1   hf
    · have hf := oa_ifn c17 hf
      refine ww_aload_n (pc := 45) (i := 0) C 0 dX4_tell_45 rfl rfl ?_
      refine ww_get (pc := 46) C fl_X4_49 0 rfl rfl dX4_tell_46 ?_
      refine ww_if_eq (pc := 49) (tgt := 95) C dX4_tell_49 (by decide) (fun c18 => ?_) (fun c18 => ?_)
      · have hf := oa_ifp c18 hf
        refine ww_sub C [0, 1] rfl ?_
        exact t_b_X4_tell_95 C  T V x1   hf
      · have hf := oa_ifn c18 hf
        refine ww_aload_n (pc := 52) (i := 0) C 0 dX4_tell_52 rfl rfl ?_
        obtain ⟨y19, e20, hf⟩ := oa_bind hf
        refine ww_callV (pc := 53) (As := []) (rest := []) (wd := wd_T O t h T V) (ws' := wd_T O t h T V) (rv := (some (.int y19))) C hY_X4_lineNamed hV_X4_lineNamed lk_X4_52 (m_X4_lineNamed _ O t h T V _ e20) [0, 1, 2, 3, 4, 5, 6, 7] 0 rfl rfl rfl rfl rfl (oa_putS _ _ _ rfl) (fun _ h => h) ⟨rfl, rfl⟩ ⟨Nat.zero_le _, Nat.zero_le _⟩ ⟨Nat.le_of_ble_eq_true rfl, Nat.le_of_ble_eq_true rfl⟩ rfl (Nat.le_of_ble_eq_true rfl) rfl rfl dX4_tell_53 ?_
        refine ww_istore_n (pc := 56) (L' := [(0, .ref (t 0)), (1, .int x1), (2, .int x2), (3, .int y19)]) C [1, 2, 3, 0] dX4_tell_56 rfl (Nat.le_of_ble_eq_true rfl) rfl ?_
        refine ww_iload_n (pc := 57) (i := 3) C 3 dX4_tell_57 rfl rfl ?_
        refine ww_bipush (pc := 58) C dX4_tell_58 kb_m4 ?_
        refine ww_icmp_ne (pc := 60) (tgt := 71) C dX4_tell_60 (by decide) (fun c22 => ?_) (fun c22 => ?_)
        · have hf := oa_ifn c22 hf
          refine ww_iload_n (pc := 71) (i := 3) C 3 dX4_tell_71 rfl rfl ?_
          refine ww_iconst (pc := 72) C dX4_tell_72 kc_3 ?_
          refine ww_icmp_ne (pc := 73) (tgt := 83) C dX4_tell_73 (by decide) (fun c23 => ?_) (fun c23 => ?_)
          · have hf := oa_ifn c23 hf
            refine ww_aload_n (pc := 83) (i := 0) C 0 dX4_tell_83 rfl rfl ?_
            refine ww_iload_n (pc := 84) (i := 3) C 3 dX4_tell_84 rfl rfl ?_
            obtain ⟨y24, T25, V26, e27, hf⟩ := oa_bind3 hf
            refine ww_callV (pc := 85) (As := [.int y19]) (rest := []) (wd := wd_T O t h T25 V26) (ws' := wd_T O t h T25 V26) (rv := (some (.int y24))) C hY_X4_takeRule hV_X4_takeRule lk_X4_62 (m_X4_takeRule _ O t h T V y19 _ e27) [0, 1, 2, 3, 4, 5, 6, 7] 0 rfl rfl rfl rfl rfl rfl (fun _ h => h) ⟨rfl, rfl⟩ ⟨Nat.zero_le _, Nat.zero_le _⟩ ⟨Nat.le_of_ble_eq_true rfl, Nat.le_of_ble_eq_true rfl⟩ rfl (Nat.le_of_ble_eq_true rfl) rfl rfl dX4_tell_85 ?_
            refine ww_istore_n (pc := 88) (L' := [(0, .ref (t 0)), (1, .int y24), (2, .int x2), (3, .int y19)]) C [1, 0, 2, 3] dX4_tell_88 rfl (Nat.le_of_ble_eq_true rfl) rfl ?_
            refine ww_iinc (pc := 89) (v := (x2 + 1)) (L' := [(0, .ref (t 0)), (1, .int y24), (2, .int (x2 + 1)), (3, .int y19)]) C 2 [1, 2, 0, 3] dX4_tell_89 rfl (ki_1 _) (Nat.le_of_ble_eq_true rfl) rfl ?_
            refine ww_goto (pc := 92) (tgt := 34) C dX4_tell_92 (by decide) ?_
            refine ww_sub C [0, 1, 2] rfl ?_
            exact hk34 T25 V26 y24 (x2 + 1) hf
          · have hf := oa_ifp c23 hf
            refine ww_aload_n (pc := 76) (i := 0) C 0 dX4_tell_76 rfl rfl ?_
            obtain ⟨y29, T30, V31, e32, hf⟩ := oa_bind3 hf
            refine ww_callV (pc := 77) (As := []) (rest := []) (wd := wd_T O t h T30 V31) (ws' := wd_T O t h T30 V31) (rv := (some (.int y29))) C hY_X4_takeOne hV_X4_takeOne lk_X4_59 (m_X4_takeOne _ O t h T V _ e32) [0, 1, 2, 3, 4, 5, 6, 7] 0 rfl rfl rfl rfl rfl rfl (fun _ h => h) ⟨rfl, rfl⟩ ⟨Nat.zero_le _, Nat.zero_le _⟩ ⟨Nat.le_of_ble_eq_true rfl, Nat.le_of_ble_eq_true rfl⟩ rfl (Nat.le_of_ble_eq_true rfl) rfl rfl dX4_tell_77 ?_
            refine ww_goto (pc := 80) (tgt := 88) C dX4_tell_80 (by decide) ?_
            refine ww_istore_n (pc := 88) (L' := [(0, .ref (t 0)), (1, .int y29), (2, .int x2), (3, .int y19)]) C [1, 0, 2, 3] dX4_tell_88 rfl (Nat.le_of_ble_eq_true rfl) rfl ?_
            refine ww_iinc (pc := 89) (v := (x2 + 1)) (L' := [(0, .ref (t 0)), (1, .int y29), (2, .int (x2 + 1)), (3, .int y19)]) C 2 [1, 2, 0, 3] dX4_tell_89 rfl (ki_1 _) (Nat.le_of_ble_eq_true rfl) rfl ?_
            refine ww_goto (pc := 92) (tgt := 34) C dX4_tell_92 (by decide) ?_
            refine ww_sub C [0, 1, 2] rfl ?_
            exact hk34 T30 V31 y29 (x2 + 1) hf
        · have hf := oa_ifp c22 hf
          refine ww_aload_n (pc := 63) (i := 0) C 0 dX4_tell_63 rfl rfl ?_
          obtain ⟨y34, T35, e36, hf⟩ := oa_bind2 hf
          refine ww_callV (pc := 64) (As := []) (rest := []) (wd := wd_T O t h T35 V) (ws' := wd_T O t h T35 V) (rv := (some (.int y34))) C hY_X4_misplaced hV_X4_misplaced lk_X4_56 (m_X4_misplaced _ O t h T V _ e36) [0, 1, 2, 3, 4, 5, 6, 7] 0 rfl rfl rfl rfl rfl rfl (fun _ h => h) ⟨rfl, rfl⟩ ⟨Nat.zero_le _, Nat.zero_le _⟩ ⟨Nat.le_of_ble_eq_true rfl, Nat.le_of_ble_eq_true rfl⟩ rfl (Nat.le_of_ble_eq_true rfl) rfl rfl dX4_tell_64 ?_
          refine ww_istore_n (pc := 67) (L' := [(0, .ref (t 0)), (1, .int y34), (2, .int x2), (3, .int y19)]) C [1, 0, 2, 3] dX4_tell_67 rfl (Nat.le_of_ble_eq_true rfl) rfl ?_
          refine ww_goto (pc := 68) (tgt := 89) C dX4_tell_68 (by decide) ?_
          refine ww_iinc (pc := 89) (v := (x2 + 1)) (L' := [(0, .ref (t 0)), (1, .int y34), (2, .int (x2 + 1)), (3, .int y19)]) C 2 [1, 2, 0, 3] dX4_tell_89 rfl (ki_1 _) (Nat.le_of_ble_eq_true rfl) rfl ?_
          refine ww_goto (pc := 92) (tgt := 34) C dX4_tell_92 (by decide) ?_
          refine ww_sub C [0, 1, 2] rfl ?_
          exact hk34 T35 V y34 (x2 + 1) hf
theorem t_l_X4_tell_34 {G : oa_G} {O : oa_O} {A : Nat → Prop} {t : Nat → Nat} {h : Nat → Nat} {res : oa_I2 × oa_I2} (C : oa_C G cX4_tell 4 RX4 none rm_X4_tell O A)     : ∀ (n : Nat) (T : oa_I2) (V : oa_I2) (x1 : Int32) (x2 : Int32), l_X4_tell_34  n T V x1 x2 = some res → ww G 4 O A (oa_Q G O A (0, 0) none (fun W1 => W1 = wd_T O t h res.1 res.2)) (0, 0) 34 [(0, .ref (t 0)), (1, .int x1), (2, .int x2)] [] (wd_T O t h T V) := by
  intro n
  induction n with
  | zero => intro T V x1 x2 hf; exact absurd (show (none : Option (oa_I2 × oa_I2)) = some res from hf) (fun h => nomatch h)
  | succ n ih =>
    intro T V x1 x2 hf
    exact t_b_X4_tell_34 C   (fun T V x1 x2 => l_X4_tell_34  n T V x1 x2)  (fun T V x1 x2 h => ih T V x1 x2 h) T V x1 x2 hf
theorem m_X4_tell (l : Launch) (O : oa_O) (t : Nat → Nat) (h : Nat → Nat) (T : oa_I2) (V : oa_I2)  (res : oa_I2 × oa_I2) (hf : f_X4_tell T V = some res) : oa_M l yX4_tell cX4_tell 4 none rm_X4_tell O [.ref (t 0)] (wd_T O t h T V) none (fun W1 => W1 = wd_T O t h res.1 res.2) := by
  refine oa_Mof (by decide) (Nat.le_of_ble_eq_true rfl) (fun G A hl C => ?_)
  subst hl
  have C : oa_C G cX4_tell 4 RX4 none rm_X4_tell O A := C
  have hf : f_X4_tell T V = some res := hf
  delta f_X4_tell at hf
  show ww G 4 O A (oa_Q G O A (0, 0) none (fun W1 => W1 = wd_T O t h res.1 res.2)) (0, 0) 0 [(0, .ref (t 0))] [] (wd_T O t h T V)
  refine ww_aload_n (pc := 0) (i := 0) C 0 dX4_tell_0 rfl rfl ?_
  refine ww_get (pc := 1) C fl_X4_18 0 rfl rfl dX4_tell_1 ?_
  obtain ⟨V1, e2, hf⟩ := oa_bind hf
  refine ww_callV (pc := 4) (As := []) (rest := []) (wd := wd_V O h V1) (ws' := wd_T O t h T V1) (rv := none) C hY_X5_clear hV_X5_clear lk_X4_30 (m_X5_clear _ O h V _ e2) [2, 3, 4, 5, 6, 7] 2 rfl rfl rfl rfl rfl rfl (fun _ h => h) ⟨rfl, rfl⟩ ⟨Nat.zero_le _, Nat.zero_le _⟩ ⟨Nat.le_of_ble_eq_true rfl, Nat.le_of_ble_eq_true rfl⟩ rfl (Nat.le_of_ble_eq_true rfl) rfl rfl dX4_tell_4 ?_
  refine ww_aload_n (pc := 7) (i := 0) C 0 dX4_tell_7 rfl rfl ?_
  refine ww_iconst (pc := 8) C dX4_tell_8 kc_0 ?_
  obtain ⟨T4, e5, hf⟩ := oa_letE hf
  refine ww_put (pc := 9) C fl_X4_33 (fun Z => wd_T O t h Z V1) 0 rfl rfl rfl (Nat.le_of_ble_eq_true rfl) e5 rfl dX4_tell_9 ?_
  refine ww_aload_n (pc := 12) (i := 0) C 0 dX4_tell_12 rfl rfl ?_
  refine ww_iconst (pc := 13) C dX4_tell_13 kc_0 ?_
  obtain ⟨T6, e7, hf⟩ := oa_letE hf
  refine ww_put (pc := 14) C fl_X4_36 (fun Z => wd_T O t h Z V1) 0 rfl rfl rfl (Nat.le_of_ble_eq_true rfl) e7 rfl dX4_tell_14 ?_
  refine ww_aload_n (pc := 17) (i := 0) C 0 dX4_tell_17 rfl rfl ?_
  refine ww_iconst (pc := 18) C dX4_tell_18 kc_0 ?_
  obtain ⟨T8, e9, hf⟩ := oa_letE hf
  refine ww_put (pc := 19) C fl_X4_39 (fun Z => wd_T O t h Z V1) 0 rfl rfl rfl (Nat.le_of_ble_eq_true rfl) e9 rfl dX4_tell_19 ?_
  refine ww_aload_n (pc := 22) (i := 0) C 0 dX4_tell_22 rfl rfl ?_
  refine ww_iconst (pc := 23) C dX4_tell_23 kc_0 ?_
  obtain ⟨T10, e11, hf⟩ := oa_letE hf
  refine ww_put (pc := 24) C fl_X4_42 (fun Z => wd_T O t h Z V1) 0 rfl rfl rfl (Nat.le_of_ble_eq_true rfl) e11 rfl dX4_tell_24 ?_
  refine ww_aload_n (pc := 27) (i := 0) C 0 dX4_tell_27 rfl rfl ?_
  obtain ⟨y12, T13, e14, hf⟩ := oa_bind2 hf
  refine ww_callV (pc := 28) (As := []) (rest := []) (wd := wd_T O t h T13 V1) (ws' := wd_T O t h T13 V1) (rv := (some (.int y12))) C hY_X4_advance hV_X4_advance lk_X4_45 (m_X4_advance _ O t h T10 V1 _ e14) [0, 1, 2, 3, 4, 5, 6, 7] 0 rfl rfl rfl rfl rfl rfl (fun _ h => h) ⟨rfl, rfl⟩ ⟨Nat.zero_le _, Nat.zero_le _⟩ ⟨Nat.le_of_ble_eq_true rfl, Nat.le_of_ble_eq_true rfl⟩ rfl (Nat.le_of_ble_eq_true rfl) rfl rfl dX4_tell_28 ?_
  refine ww_istore_n (pc := 31) (L' := [(0, .ref (t 0)), (1, .int y12)]) C [1, 0] dX4_tell_31 rfl (Nat.le_of_ble_eq_true rfl) rfl ?_
  refine ww_iconst (pc := 32) C dX4_tell_32 kc_0 ?_
  refine ww_istore_n (pc := 33) (L' := [(0, .ref (t 0)), (1, .int y12), (2, .int 0)]) C [1, 2, 0] dX4_tell_33 rfl (Nat.le_of_ble_eq_true rfl) rfl ?_
  exact t_l_X4_tell_34 C     oa_fu T13 V1 y12 0 hf
