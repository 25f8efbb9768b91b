/-! contracts (printed by wip/whole/gen/run.py) -/
theorem dJ13_bitCount_95d88_0 : decode cJ13_bitCount_95d88 0 = .ok (.lload_n 0, 1) := by decide +kernel
theorem dJ13_bitCount_95d88_1 : decode cJ13_bitCount_95d88 1 = .ok (.lload_n 0, 1) := by decide +kernel
theorem dJ13_bitCount_95d88_2 : decode cJ13_bitCount_95d88 2 = .ok (.iconst 1, 1) := by decide +kernel
theorem dJ13_bitCount_95d88_3 : decode cJ13_bitCount_95d88 3 = .ok (.lushr, 1) := by decide +kernel
theorem dJ13_bitCount_95d88_4 : decode cJ13_bitCount_95d88 4 = .ok (.ldc2_w 314, 3) := by decide +kernel
theorem dJ13_bitCount_95d88_7 : decode cJ13_bitCount_95d88 7 = .ok (.land, 1) := by decide +kernel
theorem dJ13_bitCount_95d88_8 : decode cJ13_bitCount_95d88 8 = .ok (.lsub, 1) := by decide +kernel
theorem dJ13_bitCount_95d88_9 : decode cJ13_bitCount_95d88 9 = .ok (.lstore_n 0, 1) := by decide +kernel
theorem dJ13_bitCount_95d88_10 : decode cJ13_bitCount_95d88 10 = .ok (.lload_n 0, 1) := by decide +kernel
theorem dJ13_bitCount_95d88_11 : decode cJ13_bitCount_95d88 11 = .ok (.ldc2_w 316, 3) := by decide +kernel
theorem dJ13_bitCount_95d88_14 : decode cJ13_bitCount_95d88 14 = .ok (.land, 1) := by decide +kernel
theorem dJ13_bitCount_95d88_15 : decode cJ13_bitCount_95d88 15 = .ok (.lload_n 0, 1) := by decide +kernel
theorem dJ13_bitCount_95d88_16 : decode cJ13_bitCount_95d88 16 = .ok (.iconst 2, 1) := by decide +kernel
theorem dJ13_bitCount_95d88_17 : decode cJ13_bitCount_95d88 17 = .ok (.lushr, 1) := by decide +kernel
theorem dJ13_bitCount_95d88_18 : decode cJ13_bitCount_95d88 18 = .ok (.ldc2_w 316, 3) := by decide +kernel
theorem dJ13_bitCount_95d88_21 : decode cJ13_bitCount_95d88 21 = .ok (.land, 1) := by decide +kernel
theorem dJ13_bitCount_95d88_22 : decode cJ13_bitCount_95d88 22 = .ok (.ladd, 1) := by decide +kernel
theorem dJ13_bitCount_95d88_23 : decode cJ13_bitCount_95d88 23 = .ok (.lstore_n 0, 1) := by decide +kernel
theorem dJ13_bitCount_95d88_24 : decode cJ13_bitCount_95d88 24 = .ok (.lload_n 0, 1) := by decide +kernel
theorem dJ13_bitCount_95d88_25 : decode cJ13_bitCount_95d88 25 = .ok (.lload_n 0, 1) := by decide +kernel
theorem dJ13_bitCount_95d88_26 : decode cJ13_bitCount_95d88 26 = .ok (.iconst 4, 1) := by decide +kernel
theorem dJ13_bitCount_95d88_27 : decode cJ13_bitCount_95d88 27 = .ok (.lushr, 1) := by decide +kernel
theorem dJ13_bitCount_95d88_28 : decode cJ13_bitCount_95d88 28 = .ok (.ladd, 1) := by decide +kernel
theorem dJ13_bitCount_95d88_29 : decode cJ13_bitCount_95d88 29 = .ok (.ldc2_w 318, 3) := by decide +kernel
theorem dJ13_bitCount_95d88_32 : decode cJ13_bitCount_95d88 32 = .ok (.land, 1) := by decide +kernel
theorem dJ13_bitCount_95d88_33 : decode cJ13_bitCount_95d88 33 = .ok (.lstore_n 0, 1) := by decide +kernel
theorem dJ13_bitCount_95d88_34 : decode cJ13_bitCount_95d88 34 = .ok (.lload_n 0, 1) := by decide +kernel
theorem dJ13_bitCount_95d88_35 : decode cJ13_bitCount_95d88 35 = .ok (.lload_n 0, 1) := by decide +kernel
theorem dJ13_bitCount_95d88_36 : decode cJ13_bitCount_95d88 36 = .ok (.bipush 8, 2) := by decide +kernel
theorem dJ13_bitCount_95d88_38 : decode cJ13_bitCount_95d88 38 = .ok (.lushr, 1) := by decide +kernel
theorem dJ13_bitCount_95d88_39 : decode cJ13_bitCount_95d88 39 = .ok (.ladd, 1) := by decide +kernel
theorem dJ13_bitCount_95d88_40 : decode cJ13_bitCount_95d88 40 = .ok (.lstore_n 0, 1) := by decide +kernel
theorem dJ13_bitCount_95d88_41 : decode cJ13_bitCount_95d88 41 = .ok (.lload_n 0, 1) := by decide +kernel
theorem dJ13_bitCount_95d88_42 : decode cJ13_bitCount_95d88 42 = .ok (.lload_n 0, 1) := by decide +kernel
theorem dJ13_bitCount_95d88_43 : decode cJ13_bitCount_95d88 43 = .ok (.bipush 16, 2) := by decide +kernel
theorem dJ13_bitCount_95d88_45 : decode cJ13_bitCount_95d88 45 = .ok (.lushr, 1) := by decide +kernel
theorem dJ13_bitCount_95d88_46 : decode cJ13_bitCount_95d88 46 = .ok (.ladd, 1) := by decide +kernel
theorem dJ13_bitCount_95d88_47 : decode cJ13_bitCount_95d88 47 = .ok (.lstore_n 0, 1) := by decide +kernel
theorem dJ13_bitCount_95d88_48 : decode cJ13_bitCount_95d88 48 = .ok (.lload_n 0, 1) := by decide +kernel
theorem dJ13_bitCount_95d88_49 : decode cJ13_bitCount_95d88 49 = .ok (.lload_n 0, 1) := by decide +kernel
theorem dJ13_bitCount_95d88_50 : decode cJ13_bitCount_95d88 50 = .ok (.bipush 32, 2) := by decide +kernel
theorem dJ13_bitCount_95d88_52 : decode cJ13_bitCount_95d88 52 = .ok (.lushr, 1) := by decide +kernel
theorem dJ13_bitCount_95d88_53 : decode cJ13_bitCount_95d88 53 = .ok (.ladd, 1) := by decide +kernel
theorem dJ13_bitCount_95d88_54 : decode cJ13_bitCount_95d88 54 = .ok (.lstore_n 0, 1) := by decide +kernel
theorem dJ13_bitCount_95d88_55 : decode cJ13_bitCount_95d88 55 = .ok (.lload_n 0, 1) := by decide +kernel
theorem dJ13_bitCount_95d88_56 : decode cJ13_bitCount_95d88 56 = .ok (.l2i, 1) := by decide +kernel
theorem dJ13_bitCount_95d88_57 : decode cJ13_bitCount_95d88 57 = .ok (.bipush 127, 2) := by decide +kernel
theorem dJ13_bitCount_95d88_59 : decode cJ13_bitCount_95d88 59 = .ok (.iand, 1) := by decide +kernel
theorem dJ13_bitCount_95d88_60 : decode cJ13_bitCount_95d88 60 = .ok (.ireturn, 1) := by decide +kernel
abbrev rm_J13_bitCount_95d88 : Room := { frames := 0, cells := 0, slots := 0, locals := 0 }
theorem m_J13_bitCount_95d88 (l : Launch) (O : oa_O)   (x0 : Int64) (res : Int32) (hf : f_J13_bitCount_95d88 x0 = some res) : oa_M l yJ13_bitCount_95d88 cJ13_bitCount_95d88 2 (some .int) rm_J13_bitCount_95d88 O [.long x0] ([]) (some (.int res)) (fun W1 => W1 = []) := by
  refine oa_Mof (by decide) (Nat.le_of_ble_eq_true rfl) (fun G A hl C => ?_)
  subst hl
  have C : oa_C G cJ13_bitCount_95d88 2 RJ13 (some .int) rm_J13_bitCount_95d88 O A := C
  have hf : f_J13_bitCount_95d88 x0 = some res := hf
  delta f_J13_bitCount_95d88 at hf
  show ww G 2 O A (oa_Q G O A (0, 0) (some (.int res)) (fun W1 => W1 = [])) (0, 0) 0 [(0, .long x0)] [] ([])
  refine ww_lload_n (pc := 0) (i := 0) C 0 dJ13_bitCount_95d88_0 rfl rfl ?_
  refine ww_lload_n (pc := 1) (i := 0) C 0 dJ13_bitCount_95d88_1 rfl rfl ?_
  refine ww_iconst (pc := 2) C dJ13_bitCount_95d88_2 kc_1 ?_
  refine ww_lushr (pc := 3) C dJ13_bitCount_95d88_3 ?_
  refine ww_ldc2 (pc := 4) C cw_J13_314 dJ13_bitCount_95d88_4 ?_
  refine ww_land (pc := 7) C dJ13_bitCount_95d88_7 ?_
  refine ww_lsub (pc := 8) C dJ13_bitCount_95d88_8 ?_
  obtain ⟨y1, e2, hf⟩ := oa_letE hf
  refine ww_topl C e2 ?_
  refine ww_lstore_n (pc := 9) (L' := [(0, .long y1)]) C [0] dJ13_bitCount_95d88_9 rfl (Nat.le_of_ble_eq_true rfl) rfl ?_
  refine ww_lload_n (pc := 10) (i := 0) C 0 dJ13_bitCount_95d88_10 rfl rfl ?_
  refine ww_ldc2 (pc := 11) C cw_J13_316 dJ13_bitCount_95d88_11 ?_
  refine ww_land (pc := 14) C dJ13_bitCount_95d88_14 ?_
  refine ww_lload_n (pc := 15) (i := 0) C 0 dJ13_bitCount_95d88_15 rfl rfl ?_
  refine ww_iconst (pc := 16) C dJ13_bitCount_95d88_16 kc_2 ?_
  refine ww_lushr (pc := 17) C dJ13_bitCount_95d88_17 ?_
  refine ww_ldc2 (pc := 18) C cw_J13_316 dJ13_bitCount_95d88_18 ?_
  refine ww_land (pc := 21) C dJ13_bitCount_95d88_21 ?_
  refine ww_ladd (pc := 22) C dJ13_bitCount_95d88_22 ?_
  obtain ⟨y3, e4, hf⟩ := oa_letE hf
  refine ww_topl C e4 ?_
  refine ww_lstore_n (pc := 23) (L' := [(0, .long y3)]) C [0] dJ13_bitCount_95d88_23 rfl (Nat.le_of_ble_eq_true rfl) rfl ?_
  refine ww_lload_n (pc := 24) (i := 0) C 0 dJ13_bitCount_95d88_24 rfl rfl ?_
  refine ww_lload_n (pc := 25) (i := 0) C 0 dJ13_bitCount_95d88_25 rfl rfl ?_
  refine ww_iconst (pc := 26) C dJ13_bitCount_95d88_26 kc_4 ?_
  refine ww_lushr (pc := 27) C dJ13_bitCount_95d88_27 ?_
  refine ww_ladd (pc := 28) C dJ13_bitCount_95d88_28 ?_
  refine ww_ldc2 (pc := 29) C cw_J13_318 dJ13_bitCount_95d88_29 ?_
  refine ww_land (pc := 32) C dJ13_bitCount_95d88_32 ?_
  obtain ⟨y5, e6, hf⟩ := oa_letE hf
  refine ww_topl C e6 ?_
  refine ww_lstore_n (pc := 33) (L' := [(0, .long y5)]) C [0] dJ13_bitCount_95d88_33 rfl (Nat.le_of_ble_eq_true rfl) rfl ?_
  refine ww_lload_n (pc := 34) (i := 0) C 0 dJ13_bitCount_95d88_34 rfl rfl ?_
  refine ww_lload_n (pc := 35) (i := 0) C 0 dJ13_bitCount_95d88_35 rfl rfl ?_
  refine ww_bipush (pc := 36) C dJ13_bitCount_95d88_36 kb_8 ?_
  refine ww_lushr (pc := 38) C dJ13_bitCount_95d88_38 ?_
  refine ww_ladd (pc := 39) C dJ13_bitCount_95d88_39 ?_
  obtain ⟨y7, e8, hf⟩ := oa_letE hf
  refine ww_topl C e8 ?_
  refine ww_lstore_n (pc := 40) (L' := [(0, .long y7)]) C [0] dJ13_bitCount_95d88_40 rfl (Nat.le_of_ble_eq_true rfl) rfl ?_
  refine ww_lload_n (pc := 41) (i := 0) C 0 dJ13_bitCount_95d88_41 rfl rfl ?_
  refine ww_lload_n (pc := 42) (i := 0) C 0 dJ13_bitCount_95d88_42 rfl rfl ?_
  refine ww_bipush (pc := 43) C dJ13_bitCount_95d88_43 kb_16 ?_
  refine ww_lushr (pc := 45) C dJ13_bitCount_95d88_45 ?_
  refine ww_ladd (pc := 46) C dJ13_bitCount_95d88_46 ?_
  obtain ⟨y9, e10, hf⟩ := oa_letE hf
  refine ww_topl C e10 ?_
  refine ww_lstore_n (pc := 47) (L' := [(0, .long y9)]) C [0] dJ13_bitCount_95d88_47 rfl (Nat.le_of_ble_eq_true rfl) rfl ?_
  refine ww_lload_n (pc := 48) (i := 0) C 0 dJ13_bitCount_95d88_48 rfl rfl ?_
  refine ww_lload_n (pc := 49) (i := 0) C 0 dJ13_bitCount_95d88_49 rfl rfl ?_
  refine ww_bipush (pc := 50) C dJ13_bitCount_95d88_50 kb_32 ?_
  refine ww_lushr (pc := 52) C dJ13_bitCount_95d88_52 ?_
  refine ww_ladd (pc := 53) C dJ13_bitCount_95d88_53 ?_
  obtain ⟨y11, e12, hf⟩ := oa_letE hf
  refine ww_topl C e12 ?_
  refine ww_lstore_n (pc := 54) (L' := [(0, .long y11)]) C [0] dJ13_bitCount_95d88_54 rfl (Nat.le_of_ble_eq_true rfl) rfl ?_
  refine ww_lload_n (pc := 55) (i := 0) C 0 dJ13_bitCount_95d88_55 rfl rfl ?_
  refine ww_l2i (pc := 56) C dJ13_bitCount_95d88_56 ?_
  refine ww_bipush (pc := 57) C dJ13_bitCount_95d88_57 kb_127 ?_
  refine ww_iand (pc := 59) C dJ13_bitCount_95d88_59 ?_
  obtain rfl := Option.some.inj hf
  exact ww_iret (pc := 60) C rfl dJ13_bitCount_95d88_60
theorem dJ6_bitCount_0f7a4_0 : decode cJ6_bitCount_0f7a4 0 = .ok (.iload_n 0, 1) := by decide +kernel
theorem dJ6_bitCount_0f7a4_1 : decode cJ6_bitCount_0f7a4 1 = .ok (.iload_n 0, 1) := by decide +kernel
theorem dJ6_bitCount_0f7a4_2 : decode cJ6_bitCount_0f7a4 2 = .ok (.iconst 1, 1) := by decide +kernel
theorem dJ6_bitCount_0f7a4_3 : decode cJ6_bitCount_0f7a4 3 = .ok (.iushr, 1) := by decide +kernel
theorem dJ6_bitCount_0f7a4_4 : decode cJ6_bitCount_0f7a4 4 = .ok (.ldc_w 265, 3) := by decide +kernel
theorem dJ6_bitCount_0f7a4_7 : decode cJ6_bitCount_0f7a4 7 = .ok (.iand, 1) := by decide +kernel
theorem dJ6_bitCount_0f7a4_8 : decode cJ6_bitCount_0f7a4 8 = .ok (.isub, 1) := by decide +kernel
theorem dJ6_bitCount_0f7a4_9 : decode cJ6_bitCount_0f7a4 9 = .ok (.istore_n 0, 1) := by decide +kernel
theorem dJ6_bitCount_0f7a4_10 : decode cJ6_bitCount_0f7a4 10 = .ok (.iload_n 0, 1) := by decide +kernel
theorem dJ6_bitCount_0f7a4_11 : decode cJ6_bitCount_0f7a4 11 = .ok (.ldc_w 266, 3) := by decide +kernel
theorem dJ6_bitCount_0f7a4_14 : decode cJ6_bitCount_0f7a4 14 = .ok (.iand, 1) := by decide +kernel
theorem dJ6_bitCount_0f7a4_15 : decode cJ6_bitCount_0f7a4 15 = .ok (.iload_n 0, 1) := by decide +kernel
theorem dJ6_bitCount_0f7a4_16 : decode cJ6_bitCount_0f7a4 16 = .ok (.iconst 2, 1) := by decide +kernel
theorem dJ6_bitCount_0f7a4_17 : decode cJ6_bitCount_0f7a4 17 = .ok (.iushr, 1) := by decide +kernel
theorem dJ6_bitCount_0f7a4_18 : decode cJ6_bitCount_0f7a4 18 = .ok (.ldc_w 266, 3) := by decide +kernel
theorem dJ6_bitCount_0f7a4_21 : decode cJ6_bitCount_0f7a4 21 = .ok (.iand, 1) := by decide +kernel
theorem dJ6_bitCount_0f7a4_22 : decode cJ6_bitCount_0f7a4 22 = .ok (.iadd, 1) := by decide +kernel
theorem dJ6_bitCount_0f7a4_23 : decode cJ6_bitCount_0f7a4 23 = .ok (.istore_n 0, 1) := by decide +kernel
theorem dJ6_bitCount_0f7a4_24 : decode cJ6_bitCount_0f7a4 24 = .ok (.iload_n 0, 1) := by decide +kernel
theorem dJ6_bitCount_0f7a4_25 : decode cJ6_bitCount_0f7a4 25 = .ok (.iload_n 0, 1) := by decide +kernel
theorem dJ6_bitCount_0f7a4_26 : decode cJ6_bitCount_0f7a4 26 = .ok (.iconst 4, 1) := by decide +kernel
theorem dJ6_bitCount_0f7a4_27 : decode cJ6_bitCount_0f7a4 27 = .ok (.iushr, 1) := by decide +kernel
theorem dJ6_bitCount_0f7a4_28 : decode cJ6_bitCount_0f7a4 28 = .ok (.iadd, 1) := by decide +kernel
theorem dJ6_bitCount_0f7a4_29 : decode cJ6_bitCount_0f7a4 29 = .ok (.ldc_w 267, 3) := by decide +kernel
theorem dJ6_bitCount_0f7a4_32 : decode cJ6_bitCount_0f7a4 32 = .ok (.iand, 1) := by decide +kernel
theorem dJ6_bitCount_0f7a4_33 : decode cJ6_bitCount_0f7a4 33 = .ok (.istore_n 0, 1) := by decide +kernel
theorem dJ6_bitCount_0f7a4_34 : decode cJ6_bitCount_0f7a4 34 = .ok (.iload_n 0, 1) := by decide +kernel
theorem dJ6_bitCount_0f7a4_35 : decode cJ6_bitCount_0f7a4 35 = .ok (.iload_n 0, 1) := by decide +kernel
theorem dJ6_bitCount_0f7a4_36 : decode cJ6_bitCount_0f7a4 36 = .ok (.bipush 8, 2) := by decide +kernel
theorem dJ6_bitCount_0f7a4_38 : decode cJ6_bitCount_0f7a4 38 = .ok (.iushr, 1) := by decide +kernel
theorem dJ6_bitCount_0f7a4_39 : decode cJ6_bitCount_0f7a4 39 = .ok (.iadd, 1) := by decide +kernel
theorem dJ6_bitCount_0f7a4_40 : decode cJ6_bitCount_0f7a4 40 = .ok (.istore_n 0, 1) := by decide +kernel
theorem dJ6_bitCount_0f7a4_41 : decode cJ6_bitCount_0f7a4 41 = .ok (.iload_n 0, 1) := by decide +kernel
theorem dJ6_bitCount_0f7a4_42 : decode cJ6_bitCount_0f7a4 42 = .ok (.iload_n 0, 1) := by decide +kernel
theorem dJ6_bitCount_0f7a4_43 : decode cJ6_bitCount_0f7a4 43 = .ok (.bipush 16, 2) := by decide +kernel
theorem dJ6_bitCount_0f7a4_45 : decode cJ6_bitCount_0f7a4 45 = .ok (.iushr, 1) := by decide +kernel
theorem dJ6_bitCount_0f7a4_46 : decode cJ6_bitCount_0f7a4 46 = .ok (.iadd, 1) := by decide +kernel
theorem dJ6_bitCount_0f7a4_47 : decode cJ6_bitCount_0f7a4 47 = .ok (.istore_n 0, 1) := by decide +kernel
theorem dJ6_bitCount_0f7a4_48 : decode cJ6_bitCount_0f7a4 48 = .ok (.iload_n 0, 1) := by decide +kernel
theorem dJ6_bitCount_0f7a4_49 : decode cJ6_bitCount_0f7a4 49 = .ok (.bipush 63, 2) := by decide +kernel
theorem dJ6_bitCount_0f7a4_51 : decode cJ6_bitCount_0f7a4 51 = .ok (.iand, 1) := by decide +kernel
theorem dJ6_bitCount_0f7a4_52 : decode cJ6_bitCount_0f7a4 52 = .ok (.ireturn, 1) := by decide +kernel
abbrev rm_J6_bitCount_0f7a4 : Room := { frames := 0, cells := 0, slots := 0, locals := 0 }
theorem m_J6_bitCount_0f7a4 (l : Launch) (O : oa_O)   (x0 : Int32) (res : Int32) (hf : f_J6_bitCount_0f7a4 x0 = some res) : oa_M l yJ6_bitCount_0f7a4 cJ6_bitCount_0f7a4 1 (some .int) rm_J6_bitCount_0f7a4 O [.int x0] ([]) (some (.int res)) (fun W1 => W1 = []) := by
  refine oa_Mof (by decide) (Nat.le_of_ble_eq_true rfl) (fun G A hl C => ?_)
  subst hl
  have C : oa_C G cJ6_bitCount_0f7a4 1 RJ6 (some .int) rm_J6_bitCount_0f7a4 O A := C
  have hf : f_J6_bitCount_0f7a4 x0 = some res := hf
  delta f_J6_bitCount_0f7a4 at hf
  show ww G 1 O A (oa_Q G O A (0, 0) (some (.int res)) (fun W1 => W1 = [])) (0, 0) 0 [(0, .int x0)] [] ([])
  refine ww_iload_n (pc := 0) (i := 0) C 0 dJ6_bitCount_0f7a4_0 rfl rfl ?_
  refine ww_iload_n (pc := 1) (i := 0) C 0 dJ6_bitCount_0f7a4_1 rfl rfl ?_
  refine ww_iconst (pc := 2) C dJ6_bitCount_0f7a4_2 kc_1 ?_
  refine ww_iushr (pc := 3) C dJ6_bitCount_0f7a4_3 ?_
  refine ww_ldcw (pc := 4) C cw_J6_265 dJ6_bitCount_0f7a4_4 ?_
  refine ww_iand (pc := 7) C dJ6_bitCount_0f7a4_7 ?_
  refine ww_isub (pc := 8) C dJ6_bitCount_0f7a4_8 ?_
  obtain ⟨y1, e2, hf⟩ := oa_letE hf
  refine ww_topi C e2 ?_
  refine ww_istore_n (pc := 9) (L' := [(0, .int y1)]) C [0] dJ6_bitCount_0f7a4_9 rfl (Nat.le_of_ble_eq_true rfl) rfl ?_
  refine ww_iload_n (pc := 10) (i := 0) C 0 dJ6_bitCount_0f7a4_10 rfl rfl ?_
  refine ww_ldcw (pc := 11) C cw_J6_266 dJ6_bitCount_0f7a4_11 ?_
  refine ww_iand (pc := 14) C dJ6_bitCount_0f7a4_14 ?_
  refine ww_iload_n (pc := 15) (i := 0) C 0 dJ6_bitCount_0f7a4_15 rfl rfl ?_
  refine ww_iconst (pc := 16) C dJ6_bitCount_0f7a4_16 kc_2 ?_
  refine ww_iushr (pc := 17) C dJ6_bitCount_0f7a4_17 ?_
  refine ww_ldcw (pc := 18) C cw_J6_266 dJ6_bitCount_0f7a4_18 ?_
  refine ww_iand (pc := 21) C dJ6_bitCount_0f7a4_21 ?_
  refine ww_iadd (pc := 22) C dJ6_bitCount_0f7a4_22 ?_
  obtain ⟨y3, e4, hf⟩ := oa_letE hf
  refine ww_topi C e4 ?_
  refine ww_istore_n (pc := 23) (L' := [(0, .int y3)]) C [0] dJ6_bitCount_0f7a4_23 rfl (Nat.le_of_ble_eq_true rfl) rfl ?_
  refine ww_iload_n (pc := 24) (i := 0) C 0 dJ6_bitCount_0f7a4_24 rfl rfl ?_
  refine ww_iload_n (pc := 25) (i := 0) C 0 dJ6_bitCount_0f7a4_25 rfl rfl ?_
  refine ww_iconst (pc := 26) C dJ6_bitCount_0f7a4_26 kc_4 ?_
  refine ww_iushr (pc := 27) C dJ6_bitCount_0f7a4_27 ?_
  refine ww_iadd (pc := 28) C dJ6_bitCount_0f7a4_28 ?_
  refine ww_ldcw (pc := 29) C cw_J6_267 dJ6_bitCount_0f7a4_29 ?_
  refine ww_iand (pc := 32) C dJ6_bitCount_0f7a4_32 ?_
  obtain ⟨y5, e6, hf⟩ := oa_letE hf
  refine ww_topi C e6 ?_
  refine ww_istore_n (pc := 33) (L' := [(0, .int y5)]) C [0] dJ6_bitCount_0f7a4_33 rfl (Nat.le_of_ble_eq_true rfl) rfl ?_
  refine ww_iload_n (pc := 34) (i := 0) C 0 dJ6_bitCount_0f7a4_34 rfl rfl ?_
  refine ww_iload_n (pc := 35) (i := 0) C 0 dJ6_bitCount_0f7a4_35 rfl rfl ?_
  refine ww_bipush (pc := 36) C dJ6_bitCount_0f7a4_36 kb_8 ?_
  refine ww_iushr (pc := 38) C dJ6_bitCount_0f7a4_38 ?_
  refine ww_iadd (pc := 39) C dJ6_bitCount_0f7a4_39 ?_
  obtain ⟨y7, e8, hf⟩ := oa_letE hf
  refine ww_topi C e8 ?_
  refine ww_istore_n (pc := 40) (L' := [(0, .int y7)]) C [0] dJ6_bitCount_0f7a4_40 rfl (Nat.le_of_ble_eq_true rfl) rfl ?_
  refine ww_iload_n (pc := 41) (i := 0) C 0 dJ6_bitCount_0f7a4_41 rfl rfl ?_
  refine ww_iload_n (pc := 42) (i := 0) C 0 dJ6_bitCount_0f7a4_42 rfl rfl ?_
  refine ww_bipush (pc := 43) C dJ6_bitCount_0f7a4_43 kb_16 ?_
  refine ww_iushr (pc := 45) C dJ6_bitCount_0f7a4_45 ?_
  refine ww_iadd (pc := 46) C dJ6_bitCount_0f7a4_46 ?_
  obtain ⟨y9, e10, hf⟩ := oa_letE hf
  refine ww_topi C e10 ?_
  refine ww_istore_n (pc := 47) (L' := [(0, .int y9)]) C [0] dJ6_bitCount_0f7a4_47 rfl (Nat.le_of_ble_eq_true rfl) rfl ?_
  refine ww_iload_n (pc := 48) (i := 0) C 0 dJ6_bitCount_0f7a4_48 rfl rfl ?_
  refine ww_bipush (pc := 49) C dJ6_bitCount_0f7a4_49 kb_63 ?_
  refine ww_iand (pc := 51) C dJ6_bitCount_0f7a4_51 ?_
  obtain rfl := Option.some.inj hf
  exact ww_iret (pc := 52) C rfl dJ6_bitCount_0f7a4_52
theorem dJ6_numberOfTrailingZeros_0f7a4_0 : decode cJ6_numberOfTrailingZeros_0f7a4 0 = .ok (.iload_n 0, 1) := by decide +kernel
theorem dJ6_numberOfTrailingZeros_0f7a4_1 : decode cJ6_numberOfTrailingZeros_0f7a4 1 = .ok (.iconst (-1), 1) := by decide +kernel
theorem dJ6_numberOfTrailingZeros_0f7a4_2 : decode cJ6_numberOfTrailingZeros_0f7a4 2 = .ok (.ixor, 1) := by decide +kernel
theorem dJ6_numberOfTrailingZeros_0f7a4_3 : decode cJ6_numberOfTrailingZeros_0f7a4 3 = .ok (.iload_n 0, 1) := by decide +kernel
theorem dJ6_numberOfTrailingZeros_0f7a4_4 : decode cJ6_numberOfTrailingZeros_0f7a4 4 = .ok (.iconst 1, 1) := by decide +kernel
theorem dJ6_numberOfTrailingZeros_0f7a4_5 : decode cJ6_numberOfTrailingZeros_0f7a4 5 = .ok (.isub, 1) := by decide +kernel
theorem dJ6_numberOfTrailingZeros_0f7a4_6 : decode cJ6_numberOfTrailingZeros_0f7a4 6 = .ok (.iand, 1) := by decide +kernel
theorem dJ6_numberOfTrailingZeros_0f7a4_7 : decode cJ6_numberOfTrailingZeros_0f7a4 7 = .ok (.istore_n 0, 1) := by decide +kernel
theorem dJ6_numberOfTrailingZeros_0f7a4_8 : decode cJ6_numberOfTrailingZeros_0f7a4 8 = .ok (.iload_n 0, 1) := by decide +kernel
theorem dJ6_numberOfTrailingZeros_0f7a4_9 : decode cJ6_numberOfTrailingZeros_0f7a4 9 = .ok (.ifCond .gt 8, 3) := by decide +kernel
theorem dJ6_numberOfTrailingZeros_0f7a4_12 : decode cJ6_numberOfTrailingZeros_0f7a4 12 = .ok (.iload_n 0, 1) := by decide +kernel
theorem dJ6_numberOfTrailingZeros_0f7a4_13 : decode cJ6_numberOfTrailingZeros_0f7a4 13 = .ok (.bipush 32, 2) := by decide +kernel
theorem dJ6_numberOfTrailingZeros_0f7a4_15 : decode cJ6_numberOfTrailingZeros_0f7a4 15 = .ok (.iand, 1) := by decide +kernel
theorem dJ6_numberOfTrailingZeros_0f7a4_16 : decode cJ6_numberOfTrailingZeros_0f7a4 16 = .ok (.ireturn, 1) := by decide +kernel
theorem dJ6_numberOfTrailingZeros_0f7a4_17 : decode cJ6_numberOfTrailingZeros_0f7a4 17 = .ok (.iconst 1, 1) := by decide +kernel
theorem dJ6_numberOfTrailingZeros_0f7a4_18 : decode cJ6_numberOfTrailingZeros_0f7a4 18 = .ok (.istore_n 1, 1) := by decide +kernel
theorem dJ6_numberOfTrailingZeros_0f7a4_19 : decode cJ6_numberOfTrailingZeros_0f7a4 19 = .ok (.iload_n 0, 1) := by decide +kernel
theorem dJ6_numberOfTrailingZeros_0f7a4_20 : decode cJ6_numberOfTrailingZeros_0f7a4 20 = .ok (.ldc_w 264, 3) := by decide +kernel
theorem dJ6_numberOfTrailingZeros_0f7a4_23 : decode cJ6_numberOfTrailingZeros_0f7a4 23 = .ok (.if_icmp .le 11, 3) := by decide +kernel
theorem dJ6_numberOfTrailingZeros_0f7a4_26 : decode cJ6_numberOfTrailingZeros_0f7a4 26 = .ok (.iinc 1 16, 3) := by decide +kernel
theorem dJ6_numberOfTrailingZeros_0f7a4_29 : decode cJ6_numberOfTrailingZeros_0f7a4 29 = .ok (.iload_n 0, 1) := by decide +kernel
theorem dJ6_numberOfTrailingZeros_0f7a4_30 : decode cJ6_numberOfTrailingZeros_0f7a4 30 = .ok (.bipush 16, 2) := by decide +kernel
theorem dJ6_numberOfTrailingZeros_0f7a4_32 : decode cJ6_numberOfTrailingZeros_0f7a4 32 = .ok (.iushr, 1) := by decide +kernel
theorem dJ6_numberOfTrailingZeros_0f7a4_33 : decode cJ6_numberOfTrailingZeros_0f7a4 33 = .ok (.istore_n 0, 1) := by decide +kernel
theorem dJ6_numberOfTrailingZeros_0f7a4_34 : decode cJ6_numberOfTrailingZeros_0f7a4 34 = .ok (.iload_n 0, 1) := by decide +kernel
theorem dJ6_numberOfTrailingZeros_0f7a4_35 : decode cJ6_numberOfTrailingZeros_0f7a4 35 = .ok (.sipush 256, 3) := by decide +kernel
theorem dJ6_numberOfTrailingZeros_0f7a4_38 : decode cJ6_numberOfTrailingZeros_0f7a4 38 = .ok (.if_icmp .le 11, 3) := by decide +kernel
theorem dJ6_numberOfTrailingZeros_0f7a4_41 : decode cJ6_numberOfTrailingZeros_0f7a4 41 = .ok (.iinc 1 8, 3) := by decide +kernel
theorem dJ6_numberOfTrailingZeros_0f7a4_44 : decode cJ6_numberOfTrailingZeros_0f7a4 44 = .ok (.iload_n 0, 1) := by decide +kernel
theorem dJ6_numberOfTrailingZeros_0f7a4_45 : decode cJ6_numberOfTrailingZeros_0f7a4 45 = .ok (.bipush 8, 2) := by decide +kernel
theorem dJ6_numberOfTrailingZeros_0f7a4_47 : decode cJ6_numberOfTrailingZeros_0f7a4 47 = .ok (.iushr, 1) := by decide +kernel
theorem dJ6_numberOfTrailingZeros_0f7a4_48 : decode cJ6_numberOfTrailingZeros_0f7a4 48 = .ok (.istore_n 0, 1) := by decide +kernel
theorem dJ6_numberOfTrailingZeros_0f7a4_49 : decode cJ6_numberOfTrailingZeros_0f7a4 49 = .ok (.iload_n 0, 1) := by decide +kernel
theorem dJ6_numberOfTrailingZeros_0f7a4_50 : decode cJ6_numberOfTrailingZeros_0f7a4 50 = .ok (.bipush 16, 2) := by decide +kernel
theorem dJ6_numberOfTrailingZeros_0f7a4_52 : decode cJ6_numberOfTrailingZeros_0f7a4 52 = .ok (.if_icmp .le 10, 3) := by decide +kernel
theorem dJ6_numberOfTrailingZeros_0f7a4_55 : decode cJ6_numberOfTrailingZeros_0f7a4 55 = .ok (.iinc 1 4, 3) := by decide +kernel
theorem dJ6_numberOfTrailingZeros_0f7a4_58 : decode cJ6_numberOfTrailingZeros_0f7a4 58 = .ok (.iload_n 0, 1) := by decide +kernel
theorem dJ6_numberOfTrailingZeros_0f7a4_59 : decode cJ6_numberOfTrailingZeros_0f7a4 59 = .ok (.iconst 4, 1) := by decide +kernel
theorem dJ6_numberOfTrailingZeros_0f7a4_60 : decode cJ6_numberOfTrailingZeros_0f7a4 60 = .ok (.iushr, 1) := by decide +kernel
theorem dJ6_numberOfTrailingZeros_0f7a4_61 : decode cJ6_numberOfTrailingZeros_0f7a4 61 = .ok (.istore_n 0, 1) := by decide +kernel
theorem dJ6_numberOfTrailingZeros_0f7a4_62 : decode cJ6_numberOfTrailingZeros_0f7a4 62 = .ok (.iload_n 0, 1) := by decide +kernel
theorem dJ6_numberOfTrailingZeros_0f7a4_63 : decode cJ6_numberOfTrailingZeros_0f7a4 63 = .ok (.iconst 4, 1) := by decide +kernel
theorem dJ6_numberOfTrailingZeros_0f7a4_64 : decode cJ6_numberOfTrailingZeros_0f7a4 64 = .ok (.if_icmp .le 10, 3) := by decide +kernel
theorem dJ6_numberOfTrailingZeros_0f7a4_67 : decode cJ6_numberOfTrailingZeros_0f7a4 67 = .ok (.iinc 1 2, 3) := by decide +kernel
theorem dJ6_numberOfTrailingZeros_0f7a4_70 : decode cJ6_numberOfTrailingZeros_0f7a4 70 = .ok (.iload_n 0, 1) := by decide +kernel
theorem dJ6_numberOfTrailingZeros_0f7a4_71 : decode cJ6_numberOfTrailingZeros_0f7a4 71 = .ok (.iconst 2, 1) := by decide +kernel
theorem dJ6_numberOfTrailingZeros_0f7a4_72 : decode cJ6_numberOfTrailingZeros_0f7a4 72 = .ok (.iushr, 1) := by decide +kernel
theorem dJ6_numberOfTrailingZeros_0f7a4_73 : decode cJ6_numberOfTrailingZeros_0f7a4 73 = .ok (.istore_n 0, 1) := by decide +kernel
theorem dJ6_numberOfTrailingZeros_0f7a4_74 : decode cJ6_numberOfTrailingZeros_0f7a4 74 = .ok (.iload_n 1, 1) := by decide +kernel
theorem dJ6_numberOfTrailingZeros_0f7a4_75 : decode cJ6_numberOfTrailingZeros_0f7a4 75 = .ok (.iload_n 0, 1) := by decide +kernel
theorem dJ6_numberOfTrailingZeros_0f7a4_76 : decode cJ6_numberOfTrailingZeros_0f7a4 76 = .ok (.iconst 1, 1) := by decide +kernel
theorem dJ6_numberOfTrailingZeros_0f7a4_77 : decode cJ6_numberOfTrailingZeros_0f7a4 77 = .ok (.iushr, 1) := by decide +kernel
theorem dJ6_numberOfTrailingZeros_0f7a4_78 : decode cJ6_numberOfTrailingZeros_0f7a4 78 = .ok (.iadd, 1) := by decide +kernel
theorem dJ6_numberOfTrailingZeros_0f7a4_79 : decode cJ6_numberOfTrailingZeros_0f7a4 79 = .ok (.ireturn, 1) := by decide +kernel
abbrev rm_J6_numberOfTrailingZeros_0f7a4 : Room := { frames := 0, cells := 0, slots := 0, locals := 0 }
theorem t_b_J6_numberOfTrailingZeros_0f7a4_62 {G : oa_G} {O : oa_O} {A : Nat → Prop}  {res : Int32} (C : oa_C G cJ6_numberOfTrailingZeros_0f7a4 2 RJ6 (some .int) rm_J6_numberOfTrailingZeros_0f7a4 O A)   (x0 : Int32) (x1 : Int32)    (hf : b_J6_numberOfTrailingZeros_0f7a4_62 x0 x1 = some res) : ww G 2 O A (oa_Q G O A (0, 0) (some (.int res)) (fun W1 => W1 = [])) (0, 0) 62 [(0, .int x0), (1, .int x1)] [] ([]) := by
  delta b_J6_numberOfTrailingZeros_0f7a4_62 at hf
  refine ww_iload_n (pc := 62) (i := 0) C 0 dJ6_numberOfTrailingZeros_0f7a4_62 rfl rfl ?_
  refine ww_iconst (pc := 63) C dJ6_numberOfTrailingZeros_0f7a4_63 kc_4 ?_
  refine ww_icmp_le (pc := 64) (tgt := 74) C dJ6_numberOfTrailingZeros_0f7a4_64 (by decide) (fun c13 => ?_) (fun c13 => ?_)
  · have hf := oa_ifp c13 hf
    refine ww_iload_n (pc := 74) (i := 1) C 1 dJ6_numberOfTrailingZeros_0f7a4_74 rfl rfl ?_
    refine ww_iload_n (pc := 75) (i := 0) C 0 dJ6_numberOfTrailingZeros_0f7a4_75 rfl rfl ?_
    refine ww_iconst (pc := 76) C dJ6_numberOfTrailingZeros_0f7a4_76 kc_1 ?_
    refine ww_iushr (pc := 77) C dJ6_numberOfTrailingZeros_0f7a4_77 ?_
    refine ww_iadd (pc := 78) C dJ6_numberOfTrailingZeros_0f7a4_78 ?_
    obtain rfl := Option.some.inj hf
    exact ww_iret (pc := 79) C rfl dJ6_numberOfTrailingZeros_0f7a4_79
  · have hf := oa_ifn c13 hf
    refine ww_iinc (pc := 67) (v := (x1 + 2)) (L' := [(0, .int x0), (1, .int (x1 + 2))]) C 1 [1, 0] dJ6_numberOfTrailingZeros_0f7a4_67 rfl (ki_2 _) (Nat.le_of_ble_eq_true rfl) rfl ?_
    refine ww_iload_n (pc := 70) (i := 0) C 0 dJ6_numberOfTrailingZeros_0f7a4_70 rfl rfl ?_
    refine ww_iconst (pc := 71) C dJ6_numberOfTrailingZeros_0f7a4_71 kc_2 ?_
    refine ww_iushr (pc := 72) C dJ6_numberOfTrailingZeros_0f7a4_72 ?_
    obtain ⟨y14, e15, hf⟩ := oa_letE hf
    refine ww_topi C e15 ?_
    refine ww_istore_n (pc := 73) (L' := [(0, .int y14), (1, .int (x1 + 2))]) C [0, 1] dJ6_numberOfTrailingZeros_0f7a4_73 rfl (Nat.le_of_ble_eq_true rfl) rfl ?_
    refine ww_iload_n (pc := 74) (i := 1) C 1 dJ6_numberOfTrailingZeros_0f7a4_74 rfl rfl ?_
    refine ww_iload_n (pc := 75) (i := 0) C 0 dJ6_numberOfTrailingZeros_0f7a4_75 rfl rfl ?_
    refine ww_iconst (pc := 76) C dJ6_numberOfTrailingZeros_0f7a4_76 kc_1 ?_
    refine ww_iushr (pc := 77) C dJ6_numberOfTrailingZeros_0f7a4_77 ?_
    refine ww_iadd (pc := 78) C dJ6_numberOfTrailingZeros_0f7a4_78 ?_
    obtain rfl := Option.some.inj hf
    exact ww_iret (pc := 79) C rfl dJ6_numberOfTrailingZeros_0f7a4_79
theorem t_b_J6_numberOfTrailingZeros_0f7a4_49 {G : oa_G} {O : oa_O} {A : Nat → Prop}  {res : Int32} (C : oa_C G cJ6_numberOfTrailingZeros_0f7a4 2 RJ6 (some .int) rm_J6_numberOfTrailingZeros_0f7a4 O A)   (x0 : Int32) (x1 : Int32)    (hf : b_J6_numberOfTrailingZeros_0f7a4_49 x0 x1 = some res) : ww G 2 O A (oa_Q G O A (0, 0) (some (.int res)) (fun W1 => W1 = [])) (0, 0) 49 [(0, .int x0), (1, .int x1)] [] ([]) := by
  delta b_J6_numberOfTrailingZeros_0f7a4_49 at hf
  refine ww_iload_n (pc := 49) (i := 0) C 0 dJ6_numberOfTrailingZeros_0f7a4_49 rfl rfl ?_
  refine ww_bipush (pc := 50) C dJ6_numberOfTrailingZeros_0f7a4_50 kb_16 ?_
  refine ww_icmp_le (pc := 52) (tgt := 62) C dJ6_numberOfTrailingZeros_0f7a4_52 (by decide) (fun c10 => ?_) (fun c10 => ?_)
  · have hf := oa_ifp c10 hf
    exact t_b_J6_numberOfTrailingZeros_0f7a4_62 C  x0 x1   hf
  · have hf := oa_ifn c10 hf
    refine ww_iinc (pc := 55) (v := (x1 + 4)) (L' := [(0, .int x0), (1, .int (x1 + 4))]) C 1 [1, 0] dJ6_numberOfTrailingZeros_0f7a4_55 rfl (ki_4 _) (Nat.le_of_ble_eq_true rfl) rfl ?_
    refine ww_iload_n (pc := 58) (i := 0) C 0 dJ6_numberOfTrailingZeros_0f7a4_58 rfl rfl ?_
    refine ww_iconst (pc := 59) C dJ6_numberOfTrailingZeros_0f7a4_59 kc_4 ?_
    refine ww_iushr (pc := 60) C dJ6_numberOfTrailingZeros_0f7a4_60 ?_
    obtain ⟨y11, e12, hf⟩ := oa_letE hf
    refine ww_topi C e12 ?_
    refine ww_istore_n (pc := 61) (L' := [(0, .int y11), (1, .int (x1 + 4))]) C [0, 1] dJ6_numberOfTrailingZeros_0f7a4_61 rfl (Nat.le_of_ble_eq_true rfl) rfl ?_
    exact t_b_J6_numberOfTrailingZeros_0f7a4_62 C  y11 (x1 + 4)   hf
theorem t_b_J6_numberOfTrailingZeros_0f7a4_34 {G : oa_G} {O : oa_O} {A : Nat → Prop}  {res : Int32} (C : oa_C G cJ6_numberOfTrailingZeros_0f7a4 2 RJ6 (some .int) rm_J6_numberOfTrailingZeros_0f7a4 O A)   (x0 : Int32) (x1 : Int32)    (hf : b_J6_numberOfTrailingZeros_0f7a4_34 x0 x1 = some res) : ww G 2 O A (oa_Q G O A (0, 0) (some (.int res)) (fun W1 => W1 = [])) (0, 0) 34 [(0, .int x0), (1, .int x1)] [] ([]) := by
  delta b_J6_numberOfTrailingZeros_0f7a4_34 at hf
  refine ww_iload_n (pc := 34) (i := 0) C 0 dJ6_numberOfTrailingZeros_0f7a4_34 rfl rfl ?_
  refine ww_sipush (pc := 35) C dJ6_numberOfTrailingZeros_0f7a4_35 ks_256 ?_
  refine ww_icmp_le (pc := 38) (tgt := 49) C dJ6_numberOfTrailingZeros_0f7a4_38 (by decide) (fun c7 => ?_) (fun c7 => ?_)
  · have hf := oa_ifp c7 hf
    exact t_b_J6_numberOfTrailingZeros_0f7a4_49 C  x0 x1   hf
  · have hf := oa_ifn c7 hf
    refine ww_iinc (pc := 41) (v := (x1 + 8)) (L' := [(0, .int x0), (1, .int (x1 + 8))]) C 1 [1, 0] dJ6_numberOfTrailingZeros_0f7a4_41 rfl (ki_8 _) (Nat.le_of_ble_eq_true rfl) rfl ?_
    refine ww_iload_n (pc := 44) (i := 0) C 0 dJ6_numberOfTrailingZeros_0f7a4_44 rfl rfl ?_
    refine ww_bipush (pc := 45) C dJ6_numberOfTrailingZeros_0f7a4_45 kb_8 ?_
    refine ww_iushr (pc := 47) C dJ6_numberOfTrailingZeros_0f7a4_47 ?_
    obtain ⟨y8, e9, hf⟩ := oa_letE hf
    refine ww_topi C e9 ?_
    refine ww_istore_n (pc := 48) (L' := [(0, .int y8), (1, .int (x1 + 8))]) C [0, 1] dJ6_numberOfTrailingZeros_0f7a4_48 rfl (Nat.le_of_ble_eq_true rfl) rfl ?_
    exact t_b_J6_numberOfTrailingZeros_0f7a4_49 C  y8 (x1 + 8)   hf
theorem m_J6_numberOfTrailingZeros_0f7a4 (l : Launch) (O : oa_O)   (x0 : Int32) (res : Int32) (hf : f_J6_numberOfTrailingZeros_0f7a4 x0 = some res) : oa_M l yJ6_numberOfTrailingZeros_0f7a4 cJ6_numberOfTrailingZeros_0f7a4 2 (some .int) rm_J6_numberOfTrailingZeros_0f7a4 O [.int x0] ([]) (some (.int res)) (fun W1 => W1 = []) := by
  refine oa_Mof (by decide) (Nat.le_of_ble_eq_true rfl) (fun G A hl C => ?_)
  subst hl
  have C : oa_C G cJ6_numberOfTrailingZeros_0f7a4 2 RJ6 (some .int) rm_J6_numberOfTrailingZeros_0f7a4 O A := C
  have hf : f_J6_numberOfTrailingZeros_0f7a4 x0 = some res := hf
  delta f_J6_numberOfTrailingZeros_0f7a4 at hf
  show ww G 2 O A (oa_Q G O A (0, 0) (some (.int res)) (fun W1 => W1 = [])) (0, 0) 0 [(0, .int x0)] [] ([])
  refine ww_iload_n (pc := 0) (i := 0) C 0 dJ6_numberOfTrailingZeros_0f7a4_0 rfl rfl ?_
  refine ww_iconst (pc := 1) C dJ6_numberOfTrailingZeros_0f7a4_1 kc_m1 ?_
  refine ww_ixor (pc := 2) C dJ6_numberOfTrailingZeros_0f7a4_2 ?_
  refine ww_iload_n (pc := 3) (i := 0) C 0 dJ6_numberOfTrailingZeros_0f7a4_3 rfl rfl ?_
  refine ww_iconst (pc := 4) C dJ6_numberOfTrailingZeros_0f7a4_4 kc_1 ?_
  refine ww_isub (pc := 5) C dJ6_numberOfTrailingZeros_0f7a4_5 ?_
  refine ww_iand (pc := 6) C dJ6_numberOfTrailingZeros_0f7a4_6 ?_
  obtain ⟨y1, e2, hf⟩ := oa_letE hf
  refine ww_topi C e2 ?_
  refine ww_istore_n (pc := 7) (L' := [(0, .int y1)]) C [0] dJ6_numberOfTrailingZeros_0f7a4_7 rfl (Nat.le_of_ble_eq_true rfl) rfl ?_
  refine ww_iload_n (pc := 8) (i := 0) C 0 dJ6_numberOfTrailingZeros_0f7a4_8 rfl rfl ?_
  refine ww_if_gt (pc := 9) (tgt := 17) C dJ6_numberOfTrailingZeros_0f7a4_9 (by decide) (fun c3 => ?_) (fun c3 => ?_)
  · have hf := oa_ifp c3 hf
    refine ww_iconst (pc := 17) C dJ6_numberOfTrailingZeros_0f7a4_17 kc_1 ?_
    refine ww_istore_n (pc := 18) (L' := [(0, .int y1), (1, .int 1)]) C [1, 0] dJ6_numberOfTrailingZeros_0f7a4_18 rfl (Nat.le_of_ble_eq_true rfl) rfl ?_
    refine ww_iload_n (pc := 19) (i := 0) C 0 dJ6_numberOfTrailingZeros_0f7a4_19 rfl rfl ?_
    refine ww_ldcw (pc := 20) C cw_J6_264 dJ6_numberOfTrailingZeros_0f7a4_20 ?_
    refine ww_icmp_le (pc := 23) (tgt := 34) C dJ6_numberOfTrailingZeros_0f7a4_23 (by decide) (fun c4 => ?_) (fun c4 => ?_)
    · have hf := oa_ifp c4 hf
      exact t_b_J6_numberOfTrailingZeros_0f7a4_34 C  y1 1   hf
    · have hf := oa_ifn c4 hf
      refine ww_iinc (pc := 26) (v := (1 + 16)) (L' := [(0, .int y1), (1, .int (1 + 16))]) C 1 [1, 0] dJ6_numberOfTrailingZeros_0f7a4_26 rfl (ki_16 _) (Nat.le_of_ble_eq_true rfl) rfl ?_
      refine ww_iload_n (pc := 29) (i := 0) C 0 dJ6_numberOfTrailingZeros_0f7a4_29 rfl rfl ?_
      refine ww_bipush (pc := 30) C dJ6_numberOfTrailingZeros_0f7a4_30 kb_16 ?_
      refine ww_iushr (pc := 32) C dJ6_numberOfTrailingZeros_0f7a4_32 ?_
      obtain ⟨y5, e6, hf⟩ := oa_letE hf
      refine ww_topi C e6 ?_
      refine ww_istore_n (pc := 33) (L' := [(0, .int y5), (1, .int (1 + 16))]) C [0, 1] dJ6_numberOfTrailingZeros_0f7a4_33 rfl (Nat.le_of_ble_eq_true rfl) rfl ?_
      exact t_b_J6_numberOfTrailingZeros_0f7a4_34 C  y5 (1 + 16)   hf
  · have hf := oa_ifn c3 hf
    refine ww_iload_n (pc := 12) (i := 0) C 0 dJ6_numberOfTrailingZeros_0f7a4_12 rfl rfl ?_
    refine ww_bipush (pc := 13) C dJ6_numberOfTrailingZeros_0f7a4_13 kb_32 ?_
    refine ww_iand (pc := 15) C dJ6_numberOfTrailingZeros_0f7a4_15 ?_
    obtain rfl := Option.some.inj hf
    exact ww_iret (pc := 16) C rfl dJ6_numberOfTrailingZeros_0f7a4_16
theorem dX5_everybody_0 : decode cX5_everybody 0 = .ok (.iconst 1, 1) := by decide +kernel
theorem dX5_everybody_1 : decode cX5_everybody 1 = .ok (.aload_n 0, 1) := by decide +kernel
theorem dX5_everybody_2 : decode cX5_everybody 2 = .ok (.getfield 49, 3) := by decide +kernel
theorem dX5_everybody_5 : decode cX5_everybody 5 = .ok (.ishl, 1) := by decide +kernel
theorem dX5_everybody_6 : decode cX5_everybody 6 = .ok (.iconst 1, 1) := by decide +kernel
theorem dX5_everybody_7 : decode cX5_everybody 7 = .ok (.isub, 1) := by decide +kernel
theorem dX5_everybody_8 : decode cX5_everybody 8 = .ok (.ireturn, 1) := by decide +kernel
abbrev rm_X5_everybody : Room := { frames := 0, cells := 0, slots := 0, locals := 0 }
theorem m_X5_everybody (l : Launch) (O : oa_O) (h : Nat → Nat) (V : oa_I2)  (res : Int32) (hf : f_X5_everybody V = some res) : oa_M l yX5_everybody cX5_everybody 1 (some .int) rm_X5_everybody O [.ref (h 0)] (wd_V O h V) (some (.int res)) (fun W1 => W1 = wd_V O h V) := by
  refine oa_Mof (by decide) (Nat.le_of_ble_eq_true rfl) (fun G A hl C => ?_)
  subst hl
  have C : oa_C G cX5_everybody 1 RX5 (some .int) rm_X5_everybody O A := C
  have hf : f_X5_everybody V = some res := hf
  delta f_X5_everybody at hf
  show ww G 1 O A (oa_Q G O A (0, 0) (some (.int res)) (fun W1 => W1 = wd_V O h V)) (0, 0) 0 [(0, .ref (h 0))] [] (wd_V O h V)
  refine ww_iconst (pc := 0) C dX5_everybody_0 kc_1 ?_
  refine ww_aload_n (pc := 1) (i := 0) C 0 dX5_everybody_1 rfl rfl ?_
  refine ww_get (pc := 2) C fl_X5_49 0 rfl rfl dX5_everybody_2 ?_
  refine ww_ishl (pc := 5) C dX5_everybody_5 ?_
  refine ww_iconst (pc := 6) C dX5_everybody_6 kc_1 ?_
  refine ww_isub (pc := 7) C dX5_everybody_7 ?_
  obtain rfl := Option.some.inj hf
  exact ww_iret (pc := 8) C rfl dX5_everybody_8
theorem dX5_free_0 : decode cX5_free 0 = .ok (.iconst 0, 1) := by decide +kernel
theorem dX5_free_1 : decode cX5_free 1 = .ok (.istore_n 1, 1) := by decide +kernel
theorem dX5_free_2 : decode cX5_free 2 = .ok (.iconst 0, 1) := by decide +kernel
theorem dX5_free_3 : decode cX5_free 3 = .ok (.istore_n 2, 1) := by decide +kernel
theorem dX5_free_4 : decode cX5_free 4 = .ok (.iload_n 2, 1) := by decide +kernel
theorem dX5_free_5 : decode cX5_free 5 = .ok (.aload_n 0, 1) := by decide +kernel
theorem dX5_free_6 : decode cX5_free 6 = .ok (.getfield 49, 3) := by decide +kernel
theorem dX5_free_9 : decode cX5_free 9 = .ok (.if_icmp .ge 33, 3) := by decide +kernel
theorem dX5_free_12 : decode cX5_free 12 = .ok (.aload_n 0, 1) := by decide +kernel
theorem dX5_free_13 : decode cX5_free 13 = .ok (.getfield 18, 3) := by decide +kernel
theorem dX5_free_16 : decode cX5_free 16 = .ok (.iload_n 2, 1) := by decide +kernel
theorem dX5_free_17 : decode cX5_free 17 = .ok (.iaload, 1) := by decide +kernel
theorem dX5_free_18 : decode cX5_free 18 = .ok (.invokestatic 78, 3) := by decide +kernel
theorem dX5_free_21 : decode cX5_free 21 = .ok (.aload_n 0, 1) := by decide +kernel
theorem dX5_free_22 : decode cX5_free 22 = .ok (.getfield 9, 3) := by decide +kernel
theorem dX5_free_25 : decode cX5_free 25 = .ok (.iconst 0, 1) := by decide +kernel
theorem dX5_free_26 : decode cX5_free 26 = .ok (.iaload, 1) := by decide +kernel
theorem dX5_free_27 : decode cX5_free 27 = .ok (.if_icmp .ge 9, 3) := by decide +kernel
theorem dX5_free_30 : decode cX5_free 30 = .ok (.iload_n 1, 1) := by decide +kernel
theorem dX5_free_31 : decode cX5_free 31 = .ok (.iconst 1, 1) := by decide +kernel
theorem dX5_free_32 : decode cX5_free 32 = .ok (.iload_n 2, 1) := by decide +kernel
theorem dX5_free_33 : decode cX5_free 33 = .ok (.ishl, 1) := by decide +kernel
theorem dX5_free_34 : decode cX5_free 34 = .ok (.ior, 1) := by decide +kernel
theorem dX5_free_35 : decode cX5_free 35 = .ok (.istore_n 1, 1) := by decide +kernel
theorem dX5_free_36 : decode cX5_free 36 = .ok (.iinc 2 1, 3) := by decide +kernel
theorem dX5_free_39 : decode cX5_free 39 = .ok (.goto (-35), 3) := by decide +kernel
theorem dX5_free_42 : decode cX5_free 42 = .ok (.iload_n 1, 1) := by decide +kernel
theorem dX5_free_43 : decode cX5_free 43 = .ok (.ireturn, 1) := by decide +kernel
abbrev rm_X5_free : Room := { frames := 1, cells := 0, slots := 0, locals := 20 }
theorem t_b_X5_free_4 {G : oa_G} {O : oa_O} {A : Nat → Prop} {h : Nat → Nat} {res : Int32} (C : oa_C G cX5_free 3 RX5 (some .int) rm_X5_free O A) (V : oa_I2)    (k4 : Int32 → Int32 → Option (Int32))  (hk4 : ∀ (b_x1 : Int32) (b_x2 : Int32), k4 b_x1 b_x2 = some res → ww G 3 O A (oa_Q G O A (0, 0) (some (.int res)) (fun W1 => W1 = wd_V O h V)) (0, 0) 4 [(0, .ref (h 0)), (1, .int b_x1), (2, .int b_x2)] [] (wd_V O h V)) (x1 : Int32) (x2 : Int32) (hf : b_X5_free_4 V k4 x1 x2 = some res) : ww G 3 O A (oa_Q G O A (0, 0) (some (.int res)) (fun W1 => W1 = wd_V O h V)) (0, 0) 4 [(0, .ref (h 0)), (1, .int x1), (2, .int x2)] [] (wd_V O h V) := by
  delta b_X5_free_4 at hf
  refine ww_iload_n (pc := 4) (i := 2) C 2 dX5_free_4 rfl rfl ?_
  refine ww_aload_n (pc := 5) (i := 0) C 0 dX5_free_5 rfl rfl ?_
  refine ww_get (pc := 6) C fl_X5_49 0 rfl rfl dX5_free_6 ?_
  refine ww_icmp_ge (pc := 9) (tgt := 42) C dX5_free_9 (by decide) (fun c1 => ?_) (fun c1 => ?_)
  · have hf := oa_ifp c1 hf
    refine ww_iload_n (pc := 42) (i := 1) C 1 dX5_free_42 rfl rfl ?_
    obtain rfl := Option.some.inj hf
    exact ww_iret (pc := 43) C rfl dX5_free_43
  · have hf := oa_ifn c1 hf
    refine ww_aload_n (pc := 12) (i := 0) C 0 dX5_free_12 rfl rfl ?_
    refine ww_get (pc := 13) C fl_X5_18 0 rfl rfl dX5_free_13 ?_
    refine ww_iload_n (pc := 16) (i := 2) C 2 dX5_free_16 rfl rfl ?_
    obtain ⟨y2, e3, hf⟩ := oa_bind hf
    refine ww_iald (pc := 17) C 3 rfl e3 dX5_free_17 ?_
    obtain ⟨y4, e5, hf⟩ := oa_bind hf
    refine ww_callS (pc := 18) (As := [.int y2]) (rest := []) (wd := []) (ws' := wd_V O h V) (rv := (some (.int y4))) C hY_J6_bitCount_0f7a4 hS_J6_bitCount_0f7a4 lk_X5_78 (m_J6_bitCount_0f7a4 _ O  y2 _ e5) [] rfl rfl rfl (oa_putS _ _ _ rfl) (fun _ h => h) ⟨rfl, rfl⟩ ⟨Nat.zero_le _, Nat.zero_le _⟩ ⟨Nat.le_of_ble_eq_true rfl, Nat.le_of_ble_eq_true rfl⟩ rfl (Nat.le_of_ble_eq_true rfl) rfl rfl dX5_free_18 ?_
    refine ww_aload_n (pc := 21) (i := 0) C 0 dX5_free_21 rfl rfl ?_
    refine ww_get (pc := 22) C fl_X5_9 0 rfl rfl dX5_free_22 ?_
    refine ww_iconst (pc := 25) C dX5_free_25 kc_0 ?_
    obtain ⟨y7, e8, hf⟩ := oa_bind hf
    refine ww_iald (pc := 26) C 1 rfl e8 dX5_free_26 ?_
    refine ww_icmp_ge (pc := 27) (tgt := 36) C dX5_free_27 (by decide) (fun c9 => ?_) (fun c9 => ?_)
    · have hf := oa_ifp c9 hf
      refine ww_iinc (pc := 36) (v := (x2 + 1)) (L' := [(0, .ref (h 0)), (1, .int x1), (2, .int (x2 + 1))]) C 2 [1, 2, 0] dX5_free_36 rfl (ki_1 _) (Nat.le_of_ble_eq_true rfl) rfl ?_
      refine ww_goto (pc := 39) (tgt := 4) C dX5_free_39 (by decide) ?_
      exact hk4 x1 (x2 + 1) hf
    · have hf := oa_ifn c9 hf
      refine ww_iload_n (pc := 30) (i := 1) C 1 dX5_free_30 rfl rfl ?_
      refine ww_iconst (pc := 31) C dX5_free_31 kc_1 ?_
      refine ww_iload_n (pc := 32) (i := 2) C 2 dX5_free_32 rfl rfl ?_
      refine ww_ishl (pc := 33) C dX5_free_33 ?_
      refine ww_ior (pc := 34) C dX5_free_34 ?_
      obtain ⟨y10, e11, hf⟩ := oa_letE hf
      refine ww_topi C e11 ?_
      refine ww_istore_n (pc := 35) (L' := [(0, .ref (h 0)), (1, .int y10), (2, .int x2)]) C [1, 0, 2] dX5_free_35 rfl (Nat.le_of_ble_eq_true rfl) rfl ?_
      refine ww_iinc (pc := 36) (v := (x2 + 1)) (L' := [(0, .ref (h 0)), (1, .int y10), (2, .int (x2 + 1))]) C 2 [1, 2, 0] dX5_free_36 rfl (ki_1 _) (Nat.le_of_ble_eq_true rfl) rfl ?_
      refine ww_goto (pc := 39) (tgt := 4) C dX5_free_39 (by decide) ?_
      exact hk4 y10 (x2 + 1) hf
theorem t_l_X5_free_4 {G : oa_G} {O : oa_O} {A : Nat → Prop} {h : Nat → Nat} {res : Int32} (C : oa_C G cX5_free 3 RX5 (some .int) rm_X5_free O A) (V : oa_I2)    : ∀ (n : Nat) (x1 : Int32) (x2 : Int32), l_X5_free_4 V n x1 x2 = some res → ww G 3 O A (oa_Q G O A (0, 0) (some (.int res)) (fun W1 => W1 = wd_V O h V)) (0, 0) 4 [(0, .ref (h 0)), (1, .int x1), (2, .int x2)] [] (wd_V O h V) := by
  intro n
  induction n with
  | zero => intro x1 x2 hf; exact absurd (show (none : Option (Int32)) = some res from hf) (fun h => nomatch h)
  | succ n ih =>
    intro x1 x2 hf
    exact t_b_X5_free_4 C V  (fun x1 x2 => l_X5_free_4 V n x1 x2)  (fun x1 x2 h => ih x1 x2 h) x1 x2 hf
theorem m_X5_free (l : Launch) (O : oa_O) (h : Nat → Nat) (V : oa_I2)  (res : Int32) (hf : f_X5_free V = some res) : oa_M l yX5_free cX5_free 3 (some .int) rm_X5_free O [.ref (h 0)] (wd_V O h V) (some (.int res)) (fun W1 => W1 = wd_V O h V) := by
  refine oa_Mof (by decide) (Nat.le_of_ble_eq_true rfl) (fun G A hl C => ?_)
  subst hl
  have C : oa_C G cX5_free 3 RX5 (some .int) rm_X5_free O A := C
  have hf : f_X5_free V = some res := hf
  delta f_X5_free at hf
  show ww G 3 O A (oa_Q G O A (0, 0) (some (.int res)) (fun W1 => W1 = wd_V O h V)) (0, 0) 0 [(0, .ref (h 0))] [] (wd_V O h V)
  refine ww_iconst (pc := 0) C dX5_free_0 kc_0 ?_
  refine ww_istore_n (pc := 1) (L' := [(0, .ref (h 0)), (1, .int 0)]) C [1, 0] dX5_free_1 rfl (Nat.le_of_ble_eq_true rfl) rfl ?_
  refine ww_iconst (pc := 2) C dX5_free_2 kc_0 ?_
  refine ww_istore_n (pc := 3) (L' := [(0, .ref (h 0)), (1, .int 0), (2, .int 0)]) C [1, 2, 0] dX5_free_3 rfl (Nat.le_of_ble_eq_true rfl) rfl ?_
  exact t_l_X5_free_4 C V    oa_fu 0 0 hf
theorem dX5_trait_0 : decode cX5_trait 0 = .ok (.aload_n 0, 1) := by decide +kernel
theorem dX5_trait_1 : decode cX5_trait 1 = .ok (.getfield 15, 3) := by decide +kernel
theorem dX5_trait_4 : decode cX5_trait 4 = .ok (.iload_n 1, 1) := by decide +kernel
theorem dX5_trait_5 : decode cX5_trait 5 = .ok (.bipush 6, 2) := by decide +kernel
theorem dX5_trait_7 : decode cX5_trait 7 = .ok (.imul, 1) := by decide +kernel
theorem dX5_trait_8 : decode cX5_trait 8 = .ok (.iload_n 2, 1) := by decide +kernel
theorem dX5_trait_9 : decode cX5_trait 9 = .ok (.iadd, 1) := by decide +kernel
theorem dX5_trait_10 : decode cX5_trait 10 = .ok (.iaload, 1) := by decide +kernel
theorem dX5_trait_11 : decode cX5_trait 11 = .ok (.ireturn, 1) := by decide +kernel
abbrev rm_X5_trait : Room := { frames := 0, cells := 0, slots := 0, locals := 0 }
theorem m_X5_trait (l : Launch) (O : oa_O) (h : Nat → Nat) (V : oa_I2) (x1 : Int32) (x2 : Int32) (res : Int32) (hf : f_X5_trait V x1 x2 = some res) : oa_M l yX5_trait cX5_trait 3 (some .int) rm_X5_trait O [.ref (h 0), .int x1, .int x2] (wd_V O h V) (some (.int res)) (fun W1 => W1 = wd_V O h V) := by
  refine oa_Mof (by decide) (Nat.le_of_ble_eq_true rfl) (fun G A hl C => ?_)
  subst hl
  have C : oa_C G cX5_trait 3 RX5 (some .int) rm_X5_trait O A := C
  have hf : f_X5_trait V x1 x2 = some res := hf
  delta f_X5_trait at hf
  show ww G 3 O A (oa_Q G O A (0, 0) (some (.int res)) (fun W1 => W1 = wd_V O h V)) (0, 0) 0 [(0, .ref (h 0)), (1, .int x1), (2, .int x2)] [] (wd_V O h V)
  refine ww_aload_n (pc := 0) (i := 0) C 0 dX5_trait_0 rfl rfl ?_
  refine ww_get (pc := 1) C fl_X5_15 0 rfl rfl dX5_trait_1 ?_
  refine ww_iload_n (pc := 4) (i := 1) C 1 dX5_trait_4 rfl rfl ?_
  refine ww_bipush (pc := 5) C dX5_trait_5 kb_6 ?_
  refine ww_imul (pc := 7) C dX5_trait_7 ?_
  refine ww_iload_n (pc := 8) (i := 2) C 2 dX5_trait_8 rfl rfl ?_
  refine ww_iadd (pc := 9) C dX5_trait_9 ?_
  obtain ⟨y1, e2, hf⟩ := oa_bind hf
  refine ww_iald (pc := 10) C 2 rfl e2 dX5_trait_10 ?_
  obtain rfl := Option.some.inj hf
  exact ww_iret (pc := 11) C rfl dX5_trait_11
theorem dX5_allOf_0 : decode cX5_allOf 0 = .ok (.iconst 0, 1) := by decide +kernel
theorem dX5_allOf_1 : decode cX5_allOf 1 = .ok (.istore_n 2, 1) := by decide +kernel
theorem dX5_allOf_2 : decode cX5_allOf 2 = .ok (.iconst 0, 1) := by decide +kernel
theorem dX5_allOf_3 : decode cX5_allOf 3 = .ok (.istore_n 3, 1) := by decide +kernel
theorem dX5_allOf_4 : decode cX5_allOf 4 = .ok (.iload_n 3, 1) := by decide +kernel
theorem dX5_allOf_5 : decode cX5_allOf 5 = .ok (.aload_n 0, 1) := by decide +kernel
theorem dX5_allOf_6 : decode cX5_allOf 6 = .ok (.getfield 49, 3) := by decide +kernel
theorem dX5_allOf_9 : decode cX5_allOf 9 = .ok (.if_icmp .ge 25, 3) := by decide +kernel
theorem dX5_allOf_12 : decode cX5_allOf 12 = .ok (.aload_n 0, 1) := by decide +kernel
theorem dX5_allOf_13 : decode cX5_allOf 13 = .ok (.iconst 0, 1) := by decide +kernel
theorem dX5_allOf_14 : decode cX5_allOf 14 = .ok (.iload_n 3, 1) := by decide +kernel
theorem dX5_allOf_15 : decode cX5_allOf 15 = .ok (.invokevirtual 70, 3) := by decide +kernel
theorem dX5_allOf_18 : decode cX5_allOf 18 = .ok (.iload_n 1, 1) := by decide +kernel
theorem dX5_allOf_19 : decode cX5_allOf 19 = .ok (.if_icmp .ne 9, 3) := by decide +kernel
theorem dX5_allOf_22 : decode cX5_allOf 22 = .ok (.iload_n 2, 1) := by decide +kernel
theorem dX5_allOf_23 : decode cX5_allOf 23 = .ok (.iconst 1, 1) := by decide +kernel
theorem dX5_allOf_24 : decode cX5_allOf 24 = .ok (.iload_n 3, 1) := by decide +kernel
theorem dX5_allOf_25 : decode cX5_allOf 25 = .ok (.ishl, 1) := by decide +kernel
theorem dX5_allOf_26 : decode cX5_allOf 26 = .ok (.ior, 1) := by decide +kernel
theorem dX5_allOf_27 : decode cX5_allOf 27 = .ok (.istore_n 2, 1) := by decide +kernel
theorem dX5_allOf_28 : decode cX5_allOf 28 = .ok (.iinc 3 1, 3) := by decide +kernel
theorem dX5_allOf_31 : decode cX5_allOf 31 = .ok (.goto (-27), 3) := by decide +kernel
theorem dX5_allOf_34 : decode cX5_allOf 34 = .ok (.iload_n 2, 1) := by decide +kernel
theorem dX5_allOf_35 : decode cX5_allOf 35 = .ok (.ireturn, 1) := by decide +kernel
abbrev rm_X5_allOf : Room := { frames := 1, cells := 0, slots := 0, locals := 22 }
theorem t_b_X5_allOf_4 {G : oa_G} {O : oa_O} {A : Nat → Prop} {h : Nat → Nat} {res : Int32} (C : oa_C G cX5_allOf 4 RX5 (some .int) rm_X5_allOf O A) (V : oa_I2) (x1 : Int32)    (k4 : Int32 → Int32 → Option (Int32))  (hk4 : ∀ (b_x2 : Int32) (b_x3 : Int32), k4 b_x2 b_x3 = some res → ww G 4 O A (oa_Q G O A (0, 0) (some (.int res)) (fun W1 => W1 = wd_V O h V)) (0, 0) 4 [(0, .ref (h 0)), (1, .int x1), (2, .int b_x2), (3, .int b_x3)] [] (wd_V O h V)) (x2 : Int32) (x3 : Int32) (hf : b_X5_allOf_4 V x1 k4 x2 x3 = some res) : ww G 4 O A (oa_Q G O A (0, 0) (some (.int res)) (fun W1 => W1 = wd_V O h V)) (0, 0) 4 [(0, .ref (h 0)), (1, .int x1), (2, .int x2), (3, .int x3)] [] (wd_V O h V) := by
  delta b_X5_allOf_4 at hf
  refine ww_iload_n (pc := 4) (i := 3) C 3 dX5_allOf_4 rfl rfl ?_
  refine ww_aload_n (pc := 5) (i := 0) C 0 dX5_allOf_5 rfl rfl ?_
  refine ww_get (pc := 6) C fl_X5_49 0 rfl rfl dX5_allOf_6 ?_
  refine ww_icmp_ge (pc := 9) (tgt := 34) C dX5_allOf_9 (by decide) (fun c1 => ?_) (fun c1 => ?_)
  · have hf := oa_ifp c1 hf
    refine ww_iload_n (pc := 34) (i := 2) C 2 dX5_allOf_34 rfl rfl ?_
    obtain rfl := Option.some.inj hf
    exact ww_iret (pc := 35) C rfl dX5_allOf_35
  · have hf := oa_ifn c1 hf
    refine ww_aload_n (pc := 12) (i := 0) C 0 dX5_allOf_12 rfl rfl ?_
    refine ww_iconst (pc := 13) C dX5_allOf_13 kc_0 ?_
    refine ww_iload_n (pc := 14) (i := 3) C 3 dX5_allOf_14 rfl rfl ?_
    obtain ⟨y2, e3, hf⟩ := oa_bind hf
    refine ww_callV (pc := 15) (As := [.int 0, .int x3]) (rest := []) (wd := wd_V O h V) (ws' := wd_V O h V) (rv := (some (.int y2))) C hY_X5_trait hV_X5_trait lk_X5_70 (m_X5_trait _ O h V 0 x3 _ e3) [0, 1, 2, 3, 4, 5] 0 rfl rfl rfl rfl rfl (oa_putS _ _ _ rfl) (fun _ h => h) ⟨rfl, rfl⟩ ⟨Nat.zero_le _, Nat.zero_le _⟩ ⟨Nat.le_of_ble_eq_true rfl, Nat.le_of_ble_eq_true rfl⟩ rfl (Nat.le_of_ble_eq_true rfl) rfl rfl dX5_allOf_15 ?_
    refine ww_iload_n (pc := 18) (i := 1) C 1 dX5_allOf_18 rfl rfl ?_
    refine ww_icmp_ne (pc := 19) (tgt := 28) C dX5_allOf_19 (by decide) (fun c5 => ?_) (fun c5 => ?_)
    · have hf := oa_ifn c5 hf
      refine ww_iinc (pc := 28) (v := (x3 + 1)) (L' := [(0, .ref (h 0)), (1, .int x1), (2, .int x2), (3, .int (x3 + 1))]) C 3 [1, 2, 3, 0] dX5_allOf_28 rfl (ki_1 _) (Nat.le_of_ble_eq_true rfl) rfl ?_
      refine ww_goto (pc := 31) (tgt := 4) C dX5_allOf_31 (by decide) ?_
      exact hk4 x2 (x3 + 1) hf
    · have hf := oa_ifp c5 hf
      refine ww_iload_n (pc := 22) (i := 2) C 2 dX5_allOf_22 rfl rfl ?_
      refine ww_iconst (pc := 23) C dX5_allOf_23 kc_1 ?_
      refine ww_iload_n (pc := 24) (i := 3) C 3 dX5_allOf_24 rfl rfl ?_
      refine ww_ishl (pc := 25) C dX5_allOf_25 ?_
      refine ww_ior (pc := 26) C dX5_allOf_26 ?_
      obtain ⟨y6, e7, hf⟩ := oa_letE hf
      refine ww_topi C e7 ?_
      refine ww_istore_n (pc := 27) (L' := [(0, .ref (h 0)), (1, .int x1), (2, .int y6), (3, .int x3)]) C [1, 2, 0, 3] dX5_allOf_27 rfl (Nat.le_of_ble_eq_true rfl) rfl ?_
      refine ww_iinc (pc := 28) (v := (x3 + 1)) (L' := [(0, .ref (h 0)), (1, .int x1), (2, .int y6), (3, .int (x3 + 1))]) C 3 [1, 2, 3, 0] dX5_allOf_28 rfl (ki_1 _) (Nat.le_of_ble_eq_true rfl) rfl ?_
      refine ww_goto (pc := 31) (tgt := 4) C dX5_allOf_31 (by decide) ?_
      exact hk4 y6 (x3 + 1) hf
theorem t_l_X5_allOf_4 {G : oa_G} {O : oa_O} {A : Nat → Prop} {h : Nat → Nat} {res : Int32} (C : oa_C G cX5_allOf 4 RX5 (some .int) rm_X5_allOf O A) (V : oa_I2) (x1 : Int32)    : ∀ (n : Nat) (x2 : Int32) (x3 : Int32), l_X5_allOf_4 V x1 n x2 x3 = some res → ww G 4 O A (oa_Q G O A (0, 0) (some (.int res)) (fun W1 => W1 = wd_V O h V)) (0, 0) 4 [(0, .ref (h 0)), (1, .int x1), (2, .int x2), (3, .int x3)] [] (wd_V O h V) := by
  intro n
  induction n with
  | zero => intro x2 x3 hf; exact absurd (show (none : Option (Int32)) = some res from hf) (fun h => nomatch h)
  | succ n ih =>
    intro x2 x3 hf
    exact t_b_X5_allOf_4 C V x1  (fun x2 x3 => l_X5_allOf_4 V x1 n x2 x3)  (fun x2 x3 h => ih x2 x3 h) x2 x3 hf
theorem m_X5_allOf (l : Launch) (O : oa_O) (h : Nat → Nat) (V : oa_I2) (x1 : Int32) (res : Int32) (hf : f_X5_allOf V x1 = some res) : oa_M l yX5_allOf cX5_allOf 4 (some .int) rm_X5_allOf O [.ref (h 0), .int x1] (wd_V O h V) (some (.int res)) (fun W1 => W1 = wd_V O h V) := by
  refine oa_Mof (by decide) (Nat.le_of_ble_eq_true rfl) (fun G A hl C => ?_)
  subst hl
  have C : oa_C G cX5_allOf 4 RX5 (some .int) rm_X5_allOf O A := C
  have hf : f_X5_allOf V x1 = some res := hf
  delta f_X5_allOf at hf
  show ww G 4 O A (oa_Q G O A (0, 0) (some (.int res)) (fun W1 => W1 = wd_V O h V)) (0, 0) 0 [(0, .ref (h 0)), (1, .int x1)] [] (wd_V O h V)
  refine ww_iconst (pc := 0) C dX5_allOf_0 kc_0 ?_
  refine ww_istore_n (pc := 1) (L' := [(0, .ref (h 0)), (1, .int x1), (2, .int 0)]) C [1, 2, 0] dX5_allOf_1 rfl (Nat.le_of_ble_eq_true rfl) rfl ?_
  refine ww_iconst (pc := 2) C dX5_allOf_2 kc_0 ?_
  refine ww_istore_n (pc := 3) (L' := [(0, .ref (h 0)), (1, .int x1), (2, .int 0), (3, .int 0)]) C [1, 2, 3, 0] dX5_allOf_3 rfl (Nat.le_of_ble_eq_true rfl) rfl ?_
  exact t_l_X5_allOf_4 C V x1    oa_fu 0 0 hf
theorem dX5_isAngry_0 : decode cX5_isAngry 0 = .ok (.aload_n 0, 1) := by decide +kernel
theorem dX5_isAngry_1 : decode cX5_isAngry 1 = .ok (.getfield 18, 3) := by decide +kernel
theorem dX5_isAngry_4 : decode cX5_isAngry 4 = .ok (.iload_n 1, 1) := by decide +kernel
theorem dX5_isAngry_5 : decode cX5_isAngry 5 = .ok (.iaload, 1) := by decide +kernel
theorem dX5_isAngry_6 : decode cX5_isAngry 6 = .ok (.iload_n 2, 1) := by decide +kernel
theorem dX5_isAngry_7 : decode cX5_isAngry 7 = .ok (.ishr, 1) := by decide +kernel
theorem dX5_isAngry_8 : decode cX5_isAngry 8 = .ok (.iconst 1, 1) := by decide +kernel
theorem dX5_isAngry_9 : decode cX5_isAngry 9 = .ok (.iand, 1) := by decide +kernel
theorem dX5_isAngry_10 : decode cX5_isAngry 10 = .ok (.ifCond .eq 7, 3) := by decide +kernel
theorem dX5_isAngry_13 : decode cX5_isAngry 13 = .ok (.iconst 1, 1) := by decide +kernel
theorem dX5_isAngry_14 : decode cX5_isAngry 14 = .ok (.goto 4, 3) := by decide +kernel
theorem dX5_isAngry_17 : decode cX5_isAngry 17 = .ok (.iconst 0, 1) := by decide +kernel
theorem dX5_isAngry_18 : decode cX5_isAngry 18 = .ok (.ireturn, 1) := by decide +kernel
abbrev rm_X5_isAngry : Room := { frames := 0, cells := 0, slots := 0, locals := 0 }
theorem m_X5_isAngry (l : Launch) (O : oa_O) (h : Nat → Nat) (V : oa_I2) (x1 : Int32) (x2 : Int32) (res : Int32) (hf : f_X5_isAngry V x1 x2 = some res) : oa_M l yX5_isAngry cX5_isAngry 3 (some .boolean) rm_X5_isAngry O [.ref (h 0), .int x1, .int x2] (wd_V O h V) (some (.int res)) (fun W1 => W1 = wd_V O h V) := by
  refine oa_Mof (by decide) (Nat.le_of_ble_eq_true rfl) (fun G A hl C => ?_)
  subst hl
  have C : oa_C G cX5_isAngry 3 RX5 (some .boolean) rm_X5_isAngry O A := C
  have hf : f_X5_isAngry V x1 x2 = some res := hf
  delta f_X5_isAngry at hf
  show ww G 3 O A (oa_Q G O A (0, 0) (some (.int res)) (fun W1 => W1 = wd_V O h V)) (0, 0) 0 [(0, .ref (h 0)), (1, .int x1), (2, .int x2)] [] (wd_V O h V)
  refine ww_aload_n (pc := 0) (i := 0) C 0 dX5_isAngry_0 rfl rfl ?_
  refine ww_get (pc := 1) C fl_X5_18 0 rfl rfl dX5_isAngry_1 ?_
  refine ww_iload_n (pc := 4) (i := 1) C 1 dX5_isAngry_4 rfl rfl ?_
  obtain ⟨y1, e2, hf⟩ := oa_bind hf
  refine ww_iald (pc := 5) C 3 rfl e2 dX5_isAngry_5 ?_
  refine ww_iload_n (pc := 6) (i := 2) C 2 dX5_isAngry_6 rfl rfl ?_
  refine ww_ishr (pc := 7) C dX5_isAngry_7 ?_
  refine ww_iconst (pc := 8) C dX5_isAngry_8 kc_1 ?_
  refine ww_iand (pc := 9) C dX5_isAngry_9 ?_
  refine ww_if_eq (pc := 10) (tgt := 17) C dX5_isAngry_10 (by decide) (fun c3 => ?_) (fun c3 => ?_)
  · have hf := oa_ifp c3 hf
    refine ww_iconst (pc := 17) C dX5_isAngry_17 kc_0 ?_
    obtain rfl := Option.some.inj hf
    exact ww_zret (pc := 18) C kz_0 rfl dX5_isAngry_18
  · have hf := oa_ifn c3 hf
    refine ww_iconst (pc := 13) C dX5_isAngry_13 kc_1 ?_
    refine ww_goto (pc := 14) (tgt := 18) C dX5_isAngry_14 (by decide) ?_
    obtain rfl := Option.some.inj hf
    exact ww_zret (pc := 18) C kz_1 rfl dX5_isAngry_18
theorem dX5_angryWith_0 : decode cX5_angryWith 0 = .ok (.iconst 0, 1) := by decide +kernel
theorem dX5_angryWith_1 : decode cX5_angryWith 1 = .ok (.istore_n 2, 1) := by decide +kernel
theorem dX5_angryWith_2 : decode cX5_angryWith 2 = .ok (.iconst 0, 1) := by decide +kernel
theorem dX5_angryWith_3 : decode cX5_angryWith 3 = .ok (.istore_n 3, 1) := by decide +kernel
theorem dX5_angryWith_4 : decode cX5_angryWith 4 = .ok (.iload_n 3, 1) := by decide +kernel
theorem dX5_angryWith_5 : decode cX5_angryWith 5 = .ok (.aload_n 0, 1) := by decide +kernel
theorem dX5_angryWith_6 : decode cX5_angryWith 6 = .ok (.getfield 49, 3) := by decide +kernel
theorem dX5_angryWith_9 : decode cX5_angryWith 9 = .ok (.if_icmp .ge 24, 3) := by decide +kernel
theorem dX5_angryWith_12 : decode cX5_angryWith 12 = .ok (.aload_n 0, 1) := by decide +kernel
theorem dX5_angryWith_13 : decode cX5_angryWith 13 = .ok (.iload_n 3, 1) := by decide +kernel
theorem dX5_angryWith_14 : decode cX5_angryWith 14 = .ok (.iload_n 1, 1) := by decide +kernel
theorem dX5_angryWith_15 : decode cX5_angryWith 15 = .ok (.invokevirtual 90, 3) := by decide +kernel
theorem dX5_angryWith_18 : decode cX5_angryWith 18 = .ok (.ifCond .eq 9, 3) := by decide +kernel
theorem dX5_angryWith_21 : decode cX5_angryWith 21 = .ok (.iload_n 2, 1) := by decide +kernel
theorem dX5_angryWith_22 : decode cX5_angryWith 22 = .ok (.iconst 1, 1) := by decide +kernel
theorem dX5_angryWith_23 : decode cX5_angryWith 23 = .ok (.iload_n 3, 1) := by decide +kernel
theorem dX5_angryWith_24 : decode cX5_angryWith 24 = .ok (.ishl, 1) := by decide +kernel
theorem dX5_angryWith_25 : decode cX5_angryWith 25 = .ok (.ior, 1) := by decide +kernel
theorem dX5_angryWith_26 : decode cX5_angryWith 26 = .ok (.istore_n 2, 1) := by decide +kernel
theorem dX5_angryWith_27 : decode cX5_angryWith 27 = .ok (.iinc 3 1, 3) := by decide +kernel
theorem dX5_angryWith_30 : decode cX5_angryWith 30 = .ok (.goto (-26), 3) := by decide +kernel
theorem dX5_angryWith_33 : decode cX5_angryWith 33 = .ok (.iload_n 2, 1) := by decide +kernel
theorem dX5_angryWith_34 : decode cX5_angryWith 34 = .ok (.ireturn, 1) := by decide +kernel
abbrev rm_X5_angryWith : Room := { frames := 1, cells := 0, slots := 0, locals := 22 }
theorem t_b_X5_angryWith_4 {G : oa_G} {O : oa_O} {A : Nat → Prop} {h : Nat → Nat} {res : Int32} (C : oa_C G cX5_angryWith 4 RX5 (some .int) rm_X5_angryWith O A) (V : oa_I2) (x1 : Int32)    (k4 : Int32 → Int32 → Option (Int32))  (hk4 : ∀ (b_x2 : Int32) (b_x3 : Int32), k4 b_x2 b_x3 = some res → ww G 4 O A (oa_Q G O A (0, 0) (some (.int res)) (fun W1 => W1 = wd_V O h V)) (0, 0) 4 [(0, .ref (h 0)), (1, .int x1), (2, .int b_x2), (3, .int b_x3)] [] (wd_V O h V)) (x2 : Int32) (x3 : Int32) (hf : b_X5_angryWith_4 V x1 k4 x2 x3 = some res) : ww G 4 O A (oa_Q G O A (0, 0) (some (.int res)) (fun W1 => W1 = wd_V O h V)) (0, 0) 4 [(0, .ref (h 0)), (1, .int x1), (2, .int x2), (3, .int x3)] [] (wd_V O h V) := by
  delta b_X5_angryWith_4 at hf
  refine ww_iload_n (pc := 4) (i := 3) C 3 dX5_angryWith_4 rfl rfl ?_
  refine ww_aload_n (pc := 5) (i := 0) C 0 dX5_angryWith_5 rfl rfl ?_
  refine ww_get (pc := 6) C fl_X5_49 0 rfl rfl dX5_angryWith_6 ?_
  refine ww_icmp_ge (pc := 9) (tgt := 33) C dX5_angryWith_9 (by decide) (fun c1 => ?_) (fun c1 => ?_)
  · have hf := oa_ifp c1 hf
    refine ww_iload_n (pc := 33) (i := 2) C 2 dX5_angryWith_33 rfl rfl ?_
    obtain rfl := Option.some.inj hf
    exact ww_iret (pc := 34) C rfl dX5_angryWith_34
  · have hf := oa_ifn c1 hf
    refine ww_aload_n (pc := 12) (i := 0) C 0 dX5_angryWith_12 rfl rfl ?_
    refine ww_iload_n (pc := 13) (i := 3) C 3 dX5_angryWith_13 rfl rfl ?_
    refine ww_iload_n (pc := 14) (i := 1) C 1 dX5_angryWith_14 rfl rfl ?_
    obtain ⟨y2, e3, hf⟩ := oa_bind hf
    refine ww_callV (pc := 15) (As := [.int x3, .int x1]) (rest := []) (wd := wd_V O h V) (ws' := wd_V O h V) (rv := (some (.int y2))) C hY_X5_isAngry hV_X5_isAngry lk_X5_90 (m_X5_isAngry _ O h V x3 x1 _ e3) [0, 1, 2, 3, 4, 5] 0 rfl rfl rfl rfl rfl (oa_putS _ _ _ rfl) (fun _ h => h) ⟨rfl, rfl⟩ ⟨Nat.zero_le _, Nat.zero_le _⟩ ⟨Nat.le_of_ble_eq_true rfl, Nat.le_of_ble_eq_true rfl⟩ rfl (Nat.le_of_ble_eq_true rfl) rfl rfl dX5_angryWith_15 ?_
    refine ww_if_eq (pc := 18) (tgt := 27) C dX5_angryWith_18 (by decide) (fun c5 => ?_) (fun c5 => ?_)
    · have hf := oa_ifp c5 hf
      refine ww_iinc (pc := 27) (v := (x3 + 1)) (L' := [(0, .ref (h 0)), (1, .int x1), (2, .int x2), (3, .int (x3 + 1))]) C 3 [1, 2, 3, 0] dX5_angryWith_27 rfl (ki_1 _) (Nat.le_of_ble_eq_true rfl) rfl ?_
      refine ww_goto (pc := 30) (tgt := 4) C dX5_angryWith_30 (by decide) ?_
      exact hk4 x2 (x3 + 1) hf
    · have hf := oa_ifn c5 hf
      refine ww_iload_n (pc := 21) (i := 2) C 2 dX5_angryWith_21 rfl rfl ?_
      refine ww_iconst (pc := 22) C dX5_angryWith_22 kc_1 ?_
      refine ww_iload_n (pc := 23) (i := 3) C 3 dX5_angryWith_23 rfl rfl ?_
      refine ww_ishl (pc := 24) C dX5_angryWith_24 ?_
      refine ww_ior (pc := 25) C dX5_angryWith_25 ?_
      obtain ⟨y6, e7, hf⟩ := oa_letE hf
      refine ww_topi C e7 ?_
      refine ww_istore_n (pc := 26) (L' := [(0, .ref (h 0)), (1, .int x1), (2, .int y6), (3, .int x3)]) C [1, 2, 0, 3] dX5_angryWith_26 rfl (Nat.le_of_ble_eq_true rfl) rfl ?_
      refine ww_iinc (pc := 27) (v := (x3 + 1)) (L' := [(0, .ref (h 0)), (1, .int x1), (2, .int y6), (3, .int (x3 + 1))]) C 3 [1, 2, 3, 0] dX5_angryWith_27 rfl (ki_1 _) (Nat.le_of_ble_eq_true rfl) rfl ?_
      refine ww_goto (pc := 30) (tgt := 4) C dX5_angryWith_30 (by decide) ?_
      exact hk4 y6 (x3 + 1) hf
theorem t_l_X5_angryWith_4 {G : oa_G} {O : oa_O} {A : Nat → Prop} {h : Nat → Nat} {res : Int32} (C : oa_C G cX5_angryWith 4 RX5 (some .int) rm_X5_angryWith O A) (V : oa_I2) (x1 : Int32)    : ∀ (n : Nat) (x2 : Int32) (x3 : Int32), l_X5_angryWith_4 V x1 n x2 x3 = some res → ww G 4 O A (oa_Q G O A (0, 0) (some (.int res)) (fun W1 => W1 = wd_V O h V)) (0, 0) 4 [(0, .ref (h 0)), (1, .int x1), (2, .int x2), (3, .int x3)] [] (wd_V O h V) := by
  intro n
  induction n with
  | zero => intro x2 x3 hf; exact absurd (show (none : Option (Int32)) = some res from hf) (fun h => nomatch h)
  | succ n ih =>
    intro x2 x3 hf
    exact t_b_X5_angryWith_4 C V x1  (fun x2 x3 => l_X5_angryWith_4 V x1 n x2 x3)  (fun x2 x3 h => ih x2 x3 h) x2 x3 hf
theorem m_X5_angryWith (l : Launch) (O : oa_O) (h : Nat → Nat) (V : oa_I2) (x1 : Int32) (res : Int32) (hf : f_X5_angryWith V x1 = some res) : oa_M l yX5_angryWith cX5_angryWith 4 (some .int) rm_X5_angryWith O [.ref (h 0), .int x1] (wd_V O h V) (some (.int res)) (fun W1 => W1 = wd_V O h V) := by
  refine oa_Mof (by decide) (Nat.le_of_ble_eq_true rfl) (fun G A hl C => ?_)
  subst hl
  have C : oa_C G cX5_angryWith 4 RX5 (some .int) rm_X5_angryWith O A := C
  have hf : f_X5_angryWith V x1 = some res := hf
  delta f_X5_angryWith at hf
  show ww G 4 O A (oa_Q G O A (0, 0) (some (.int res)) (fun W1 => W1 = wd_V O h V)) (0, 0) 0 [(0, .ref (h 0)), (1, .int x1)] [] (wd_V O h V)
  refine ww_iconst (pc := 0) C dX5_angryWith_0 kc_0 ?_
  refine ww_istore_n (pc := 1) (L' := [(0, .ref (h 0)), (1, .int x1), (2, .int 0)]) C [1, 2, 0] dX5_angryWith_1 rfl (Nat.le_of_ble_eq_true rfl) rfl ?_
  refine ww_iconst (pc := 2) C dX5_angryWith_2 kc_0 ?_
  refine ww_istore_n (pc := 3) (L' := [(0, .ref (h 0)), (1, .int x1), (2, .int 0), (3, .int 0)]) C [1, 2, 3, 0] dX5_angryWith_3 rfl (Nat.le_of_ble_eq_true rfl) rfl ?_
  exact t_l_X5_angryWith_4 C V x1    oa_fu 0 0 hf
theorem dX5_minds_0 : decode cX5_minds 0 = .ok (.aload_n 0, 1) := by decide +kernel
theorem dX5_minds_1 : decode cX5_minds 1 = .ok (.iconst 0, 1) := by decide +kernel
theorem dX5_minds_2 : decode cX5_minds 2 = .ok (.iload_n 1, 1) := by decide +kernel
theorem dX5_minds_3 : decode cX5_minds 3 = .ok (.invokevirtual 70, 3) := by decide +kernel
theorem dX5_minds_6 : decode cX5_minds 6 = .ok (.tableswitch 90 0 3 #[30, 41, 68, 30], 30) := by decide +kernel
theorem dX5_minds_36 : decode cX5_minds 36 = .ok (.iload_n 1, 1) := by decide +kernel
theorem dX5_minds_37 : decode cX5_minds 37 = .ok (.iload_n 2, 1) := by decide +kernel
theorem dX5_minds_38 : decode cX5_minds 38 = .ok (.if_icmp .ne 7, 3) := by decide +kernel
theorem dX5_minds_41 : decode cX5_minds 41 = .ok (.iconst 1, 1) := by decide +kernel
theorem dX5_minds_42 : decode cX5_minds 42 = .ok (.goto 4, 3) := by decide +kernel
theorem dX5_minds_45 : decode cX5_minds 45 = .ok (.iconst 0, 1) := by decide +kernel
theorem dX5_minds_46 : decode cX5_minds 46 = .ok (.ireturn, 1) := by decide +kernel
theorem dX5_minds_47 : decode cX5_minds 47 = .ok (.iload_n 1, 1) := by decide +kernel
theorem dX5_minds_48 : decode cX5_minds 48 = .ok (.iload_n 2, 1) := by decide +kernel
theorem dX5_minds_49 : decode cX5_minds 49 = .ok (.if_icmp .ne 23, 3) := by decide +kernel
theorem dX5_minds_52 : decode cX5_minds 52 = .ok (.aload_n 0, 1) := by decide +kernel
theorem dX5_minds_53 : decode cX5_minds 53 = .ok (.iconst 2, 1) := by decide +kernel
theorem dX5_minds_54 : decode cX5_minds 54 = .ok (.iload_n 1, 1) := by decide +kernel
theorem dX5_minds_55 : decode cX5_minds 55 = .ok (.invokevirtual 70, 3) := by decide +kernel
theorem dX5_minds_58 : decode cX5_minds 58 = .ok (.aload_n 0, 1) := by decide +kernel
theorem dX5_minds_59 : decode cX5_minds 59 = .ok (.bipush 6, 2) := by decide +kernel
theorem dX5_minds_61 : decode cX5_minds 61 = .ok (.iload_n 1, 1) := by decide +kernel
theorem dX5_minds_62 : decode cX5_minds 62 = .ok (.invokevirtual 70, 3) := by decide +kernel
theorem dX5_minds_65 : decode cX5_minds 65 = .ok (.if_icmp .lt 7, 3) := by decide +kernel
theorem dX5_minds_68 : decode cX5_minds 68 = .ok (.iconst 1, 1) := by decide +kernel
theorem dX5_minds_69 : decode cX5_minds 69 = .ok (.goto 4, 3) := by decide +kernel
theorem dX5_minds_72 : decode cX5_minds 72 = .ok (.iconst 0, 1) := by decide +kernel
theorem dX5_minds_73 : decode cX5_minds 73 = .ok (.ireturn, 1) := by decide +kernel
theorem dX5_minds_74 : decode cX5_minds 74 = .ok (.iload_n 1, 1) := by decide +kernel
theorem dX5_minds_75 : decode cX5_minds 75 = .ok (.iload_n 2, 1) := by decide +kernel
theorem dX5_minds_76 : decode cX5_minds 76 = .ok (.if_icmp .eq 14, 3) := by decide +kernel
theorem dX5_minds_79 : decode cX5_minds 79 = .ok (.aload_n 0, 1) := by decide +kernel
theorem dX5_minds_80 : decode cX5_minds 80 = .ok (.bipush 7, 2) := by decide +kernel
theorem dX5_minds_82 : decode cX5_minds 82 = .ok (.iload_n 1, 1) := by decide +kernel
theorem dX5_minds_83 : decode cX5_minds 83 = .ok (.invokevirtual 70, 3) := by decide +kernel
theorem dX5_minds_86 : decode cX5_minds 86 = .ok (.iload_n 2, 1) := by decide +kernel
theorem dX5_minds_87 : decode cX5_minds 87 = .ok (.if_icmp .ne 7, 3) := by decide +kernel
theorem dX5_minds_90 : decode cX5_minds 90 = .ok (.iconst 1, 1) := by decide +kernel
theorem dX5_minds_91 : decode cX5_minds 91 = .ok (.goto 4, 3) := by decide +kernel
theorem dX5_minds_94 : decode cX5_minds 94 = .ok (.iconst 0, 1) := by decide +kernel
theorem dX5_minds_95 : decode cX5_minds 95 = .ok (.ireturn, 1) := by decide +kernel
theorem dX5_minds_96 : decode cX5_minds 96 = .ok (.iconst 0, 1) := by decide +kernel
theorem dX5_minds_97 : decode cX5_minds 97 = .ok (.ireturn, 1) := by decide +kernel
abbrev rm_X5_minds : Room := { frames := 1, cells := 0, slots := 0, locals := 22 }
theorem m_X5_minds (l : Launch) (O : oa_O) (h : Nat → Nat) (V : oa_I2) (x1 : Int32) (x2 : Int32) (res : Int32) (hf : f_X5_minds V x1 x2 = some res) : oa_M l yX5_minds cX5_minds 3 (some .boolean) rm_X5_minds O [.ref (h 0), .int x1, .int x2] (wd_V O h V) (some (.int res)) (fun W1 => W1 = wd_V O h V) := by
  refine oa_Mof (by decide) (Nat.le_of_ble_eq_true rfl) (fun G A hl C => ?_)
  subst hl
  have C : oa_C G cX5_minds 3 RX5 (some .boolean) rm_X5_minds O A := C
  have hf : f_X5_minds V x1 x2 = some res := hf
  delta f_X5_minds at hf
  show ww G 3 O A (oa_Q G O A (0, 0) (some (.int res)) (fun W1 => W1 = wd_V O h V)) (0, 0) 0 [(0, .ref (h 0)), (1, .int x1), (2, .int x2)] [] (wd_V O h V)
  refine ww_aload_n (pc := 0) (i := 0) C 0 dX5_minds_0 rfl rfl ?_
  refine ww_iconst (pc := 1) C dX5_minds_1 kc_0 ?_
  refine ww_iload_n (pc := 2) (i := 1) C 1 dX5_minds_2 rfl rfl ?_
  obtain ⟨y1, e2, hf⟩ := oa_bind hf
  refine ww_callV (pc := 3) (As := [.int 0, .int x1]) (rest := []) (wd := wd_V O h V) (ws' := wd_V O h V) (rv := (some (.int y1))) C hY_X5_trait hV_X5_trait lk_X5_70 (m_X5_trait _ O h V 0 x1 _ e2) [0, 1, 2, 3, 4, 5] 0 rfl rfl rfl rfl rfl (oa_putS _ _ _ rfl) (fun _ h => h) ⟨rfl, rfl⟩ ⟨Nat.zero_le _, Nat.zero_le _⟩ ⟨Nat.le_of_ble_eq_true rfl, Nat.le_of_ble_eq_true rfl⟩ rfl (Nat.le_of_ble_eq_true rfl) rfl rfl dX5_minds_3 ?_
  by_cases c4 : y1 = 0
  · have hf := oa_ifp c4 hf
    refine ww_tabI (pc := 6) (tgt := 36) C dX5_minds_6 (by rw [c4] <;> decide) (by rw [c4] <;> decide) (by rw [c4] <;> rfl) (by decide) ?_
    refine ww_iload_n (pc := 36) (i := 1) C 1 dX5_minds_36 rfl rfl ?_
    refine ww_iload_n (pc := 37) (i := 2) C 2 dX5_minds_37 rfl rfl ?_
    refine ww_icmp_ne (pc := 38) (tgt := 45) C dX5_minds_38 (by decide) (fun c5 => ?_) (fun c5 => ?_)
    · have hf := oa_ifn c5 hf
      refine ww_iconst (pc := 45) C dX5_minds_45 kc_0 ?_
      obtain rfl := Option.some.inj hf
      exact ww_zret (pc := 46) C kz_0 rfl dX5_minds_46
    · have hf := oa_ifp c5 hf
      refine ww_iconst (pc := 41) C dX5_minds_41 kc_1 ?_
      refine ww_goto (pc := 42) (tgt := 46) C dX5_minds_42 (by decide) ?_
      obtain rfl := Option.some.inj hf
      exact ww_zret (pc := 46) C kz_1 rfl dX5_minds_46
  have hf := oa_ifn c4 hf
  by_cases c6 : y1 = 1
  · have hf := oa_ifp c6 hf
    refine ww_tabI (pc := 6) (tgt := 47) C dX5_minds_6 (by rw [c6] <;> decide) (by rw [c6] <;> decide) (by rw [c6] <;> rfl) (by decide) ?_
    refine ww_iload_n (pc := 47) (i := 1) C 1 dX5_minds_47 rfl rfl ?_
    refine ww_iload_n (pc := 48) (i := 2) C 2 dX5_minds_48 rfl rfl ?_
    refine ww_icmp_ne (pc := 49) (tgt := 72) C dX5_minds_49 (by decide) (fun c7 => ?_) (fun c7 => ?_)
    · have hf := oa_ifn c7 hf
      refine ww_iconst (pc := 72) C dX5_minds_72 kc_0 ?_
      obtain rfl := Option.some.inj hf
      exact ww_zret (pc := 73) C kz_0 rfl dX5_minds_73
    · have hf := oa_ifp c7 hf
      refine ww_aload_n (pc := 52) (i := 0) C 0 dX5_minds_52 rfl rfl ?_
      refine ww_iconst (pc := 53) C dX5_minds_53 kc_2 ?_
      refine ww_iload_n (pc := 54) (i := 1) C 1 dX5_minds_54 rfl rfl ?_
      obtain ⟨y8, e9, hf⟩ := oa_bind hf
      refine ww_callV (pc := 55) (As := [.int 2, .int x1]) (rest := []) (wd := wd_V O h V) (ws' := wd_V O h V) (rv := (some (.int y8))) C hY_X5_trait hV_X5_trait lk_X5_70 (m_X5_trait _ O h V 2 x1 _ e9) [0, 1, 2, 3, 4, 5] 0 rfl rfl rfl rfl rfl (oa_putS _ _ _ rfl) (fun _ h => h) ⟨rfl, rfl⟩ ⟨Nat.zero_le _, Nat.zero_le _⟩ ⟨Nat.le_of_ble_eq_true rfl, Nat.le_of_ble_eq_true rfl⟩ rfl (Nat.le_of_ble_eq_true rfl) rfl rfl dX5_minds_55 ?_
      refine ww_aload_n (pc := 58) (i := 0) C 0 dX5_minds_58 rfl rfl ?_
      refine ww_bipush (pc := 59) C dX5_minds_59 kb_6 ?_
      refine ww_iload_n (pc := 61) (i := 1) C 1 dX5_minds_61 rfl rfl ?_
      obtain ⟨y11, e12, hf⟩ := oa_bind hf
      refine ww_callV (pc := 62) (As := [.int 6, .int x1]) (rest := [.int y8]) (wd := wd_V O h V) (ws' := wd_V O h V) (rv := (some (.int y11))) C hY_X5_trait hV_X5_trait lk_X5_70 (m_X5_trait _ O h V 6 x1 _ e12) [0, 1, 2, 3, 4, 5] 0 rfl rfl rfl rfl rfl (oa_putS _ _ _ rfl) (fun _ h => h) ⟨rfl, rfl⟩ ⟨Nat.zero_le _, Nat.zero_le _⟩ ⟨Nat.le_of_ble_eq_true rfl, Nat.le_of_ble_eq_true rfl⟩ rfl (Nat.le_of_ble_eq_true rfl) rfl rfl dX5_minds_62 ?_
      refine ww_icmp_lt (pc := 65) (tgt := 72) C dX5_minds_65 (by decide) (fun c14 => ?_) (fun c14 => ?_)
      · have hf := oa_ifp c14 hf
        refine ww_iconst (pc := 72) C dX5_minds_72 kc_0 ?_
        obtain rfl := Option.some.inj hf
        exact ww_zret (pc := 73) C kz_0 rfl dX5_minds_73
      · have hf := oa_ifn c14 hf
        refine ww_iconst (pc := 68) C dX5_minds_68 kc_1 ?_
        refine ww_goto (pc := 69) (tgt := 73) C dX5_minds_69 (by decide) ?_
        obtain rfl := Option.some.inj hf
        exact ww_zret (pc := 73) C kz_1 rfl dX5_minds_73
  have hf := oa_ifn c6 hf
  by_cases c15 : y1 = 2
  · have hf := oa_ifp c15 hf
    refine ww_tabI (pc := 6) (tgt := 74) C dX5_minds_6 (by rw [c15] <;> decide) (by rw [c15] <;> decide) (by rw [c15] <;> rfl) (by decide) ?_
    refine ww_iload_n (pc := 74) (i := 1) C 1 dX5_minds_74 rfl rfl ?_
    refine ww_iload_n (pc := 75) (i := 2) C 2 dX5_minds_75 rfl rfl ?_
    refine ww_icmp_eq (pc := 76) (tgt := 90) C dX5_minds_76 (by decide) (fun c16 => ?_) (fun c16 => ?_)
    · have hf := oa_ifp c16 hf
      refine ww_iconst (pc := 90) C dX5_minds_90 kc_1 ?_
      refine ww_goto (pc := 91) (tgt := 95) C dX5_minds_91 (by decide) ?_
      obtain rfl := Option.some.inj hf
      exact ww_zret (pc := 95) C kz_1 rfl dX5_minds_95
    · have hf := oa_ifn c16 hf
      refine ww_aload_n (pc := 79) (i := 0) C 0 dX5_minds_79 rfl rfl ?_
      refine ww_bipush (pc := 80) C dX5_minds_80 kb_7 ?_
      refine ww_iload_n (pc := 82) (i := 1) C 1 dX5_minds_82 rfl rfl ?_
      obtain ⟨y17, e18, hf⟩ := oa_bind hf
      refine ww_callV (pc := 83) (As := [.int 7, .int x1]) (rest := []) (wd := wd_V O h V) (ws' := wd_V O h V) (rv := (some (.int y17))) C hY_X5_trait hV_X5_trait lk_X5_70 (m_X5_trait _ O h V 7 x1 _ e18) [0, 1, 2, 3, 4, 5] 0 rfl rfl rfl rfl rfl (oa_putS _ _ _ rfl) (fun _ h => h) ⟨rfl, rfl⟩ ⟨Nat.zero_le _, Nat.zero_le _⟩ ⟨Nat.le_of_ble_eq_true rfl, Nat.le_of_ble_eq_true rfl⟩ rfl (Nat.le_of_ble_eq_true rfl) rfl rfl dX5_minds_83 ?_
      refine ww_iload_n (pc := 86) (i := 2) C 2 dX5_minds_86 rfl rfl ?_
      refine ww_icmp_ne (pc := 87) (tgt := 94) C dX5_minds_87 (by decide) (fun c20 => ?_) (fun c20 => ?_)
      · have hf := oa_ifn c20 hf
        refine ww_iconst (pc := 94) C dX5_minds_94 kc_0 ?_
        obtain rfl := Option.some.inj hf
        exact ww_zret (pc := 95) C kz_0 rfl dX5_minds_95
      · have hf := oa_ifp c20 hf
        refine ww_iconst (pc := 90) C dX5_minds_90 kc_1 ?_
        refine ww_goto (pc := 91) (tgt := 95) C dX5_minds_91 (by decide) ?_
        obtain rfl := Option.some.inj hf
        exact ww_zret (pc := 95) C kz_1 rfl dX5_minds_95
  have hf := oa_ifn c15 hf
  by_cases c21 : y1 = 3
  · have hf := oa_ifp c21 hf
    refine ww_tabI (pc := 6) (tgt := 36) C dX5_minds_6 (by rw [c21] <;> decide) (by rw [c21] <;> decide) (by rw [c21] <;> rfl) (by decide) ?_
    refine ww_iload_n (pc := 36) (i := 1) C 1 dX5_minds_36 rfl rfl ?_
    refine ww_iload_n (pc := 37) (i := 2) C 2 dX5_minds_37 rfl rfl ?_
    refine ww_icmp_ne (pc := 38) (tgt := 45) C dX5_minds_38 (by decide) (fun c22 => ?_) (fun c22 => ?_)
    · have hf := oa_ifn c22 hf
      refine ww_iconst (pc := 45) C dX5_minds_45 kc_0 ?_
      obtain rfl := Option.some.inj hf
      exact ww_zret (pc := 46) C kz_0 rfl dX5_minds_46
    · have hf := oa_ifp c22 hf
      refine ww_iconst (pc := 41) C dX5_minds_41 kc_1 ?_
      refine ww_goto (pc := 42) (tgt := 46) C dX5_minds_42 (by decide) ?_
      obtain rfl := Option.some.inj hf
      exact ww_zret (pc := 46) C kz_1 rfl dX5_minds_46
  have hf := oa_ifn c21 hf
  refine ww_tabO (pc := 6) (tgt := 96) C dX5_minds_6 (to_0_3 c4 c6 c15 c21) (by decide) ?_
  refine ww_iconst (pc := 96) C dX5_minds_96 kc_0 ?_
  obtain rfl := Option.some.inj hf
  exact ww_zret (pc := 97) C kz_0 rfl dX5_minds_97
theorem dX6_costFor_0 : decode cX6_costFor 0 = .ok (.iload_n 0, 1) := by decide +kernel
theorem dX6_costFor_1 : decode cX6_costFor 1 = .ok (.iload_n 3, 1) := by decide +kernel
theorem dX6_costFor_2 : decode cX6_costFor 2 = .ok (.imul, 1) := by decide +kernel
theorem dX6_costFor_3 : decode cX6_costFor 3 = .ok (.iload_n 0, 1) := by decide +kernel
theorem dX6_costFor_4 : decode cX6_costFor 4 = .ok (.iload_n 2, 1) := by decide +kernel
theorem dX6_costFor_5 : decode cX6_costFor 5 = .ok (.imul, 1) := by decide +kernel
theorem dX6_costFor_6 : decode cX6_costFor 6 = .ok (.iload_n 1, 1) := by decide +kernel
theorem dX6_costFor_7 : decode cX6_costFor 7 = .ok (.iadd, 1) := by decide +kernel
theorem dX6_costFor_8 : decode cX6_costFor 8 = .ok (.invokestatic 296, 3) := by decide +kernel
theorem dX6_costFor_11 : decode cX6_costFor 11 = .ok (.ireturn, 1) := by decide +kernel
abbrev rm_X6_costFor : Room := { frames := 1, cells := 0, slots := 0, locals := 21 }
theorem m_X6_costFor (l : Launch) (O : oa_O)   (x0 : Int32) (x1 : Int32) (x2 : Int32) (x3 : Int32) (res : Int32) (hf : f_X6_costFor x0 x1 x2 x3 = some res) : oa_M l yX6_costFor cX6_costFor 4 (some .int) rm_X6_costFor O [.int x0, .int x1, .int x2, .int x3] ([]) (some (.int res)) (fun W1 => W1 = []) := by
  refine oa_Mof (by decide) (Nat.le_of_ble_eq_true rfl) (fun G A hl C => ?_)
  subst hl
  have C : oa_C G cX6_costFor 4 RX6 (some .int) rm_X6_costFor O A := C
  have hf : f_X6_costFor x0 x1 x2 x3 = some res := hf
  delta f_X6_costFor at hf
  show ww G 4 O A (oa_Q G O A (0, 0) (some (.int res)) (fun W1 => W1 = [])) (0, 0) 0 [(0, .int x0), (1, .int x1), (2, .int x2), (3, .int x3)] [] ([])
  refine ww_iload_n (pc := 0) (i := 0) C 0 dX6_costFor_0 rfl rfl ?_
  refine ww_iload_n (pc := 1) (i := 3) C 3 dX6_costFor_1 rfl rfl ?_
  refine ww_imul (pc := 2) C dX6_costFor_2 ?_
  refine ww_iload_n (pc := 3) (i := 0) C 0 dX6_costFor_3 rfl rfl ?_
  refine ww_iload_n (pc := 4) (i := 2) C 2 dX6_costFor_4 rfl rfl ?_
  refine ww_imul (pc := 5) C dX6_costFor_5 ?_
  refine ww_iload_n (pc := 6) (i := 1) C 1 dX6_costFor_6 rfl rfl ?_
  refine ww_iadd (pc := 7) C dX6_costFor_7 ?_
  refine ww_mmin (pc := 8) C lk_X6_296 hS_J9_min_7cf53 hY_J9_min_7cf53 (Nat.le_of_ble_eq_true rfl) (Nat.le_of_ble_eq_true rfl) ⟨Nat.zero_le _, Nat.zero_le _⟩ dX6_costFor_8 ?_
  obtain rfl := Option.some.inj hf
  exact ww_iret (pc := 11) C rfl dX6_costFor_11
theorem dX5_costOf_0 : decode cX5_costOf 0 = .ok (.aload_n 0, 1) := by decide +kernel
theorem dX5_costOf_1 : decode cX5_costOf 1 = .ok (.iconst 3, 1) := by decide +kernel
theorem dX5_costOf_2 : decode cX5_costOf 2 = .ok (.iload_n 1, 1) := by decide +kernel
theorem dX5_costOf_3 : decode cX5_costOf 3 = .ok (.invokevirtual 70, 3) := by decide +kernel
theorem dX5_costOf_6 : decode cX5_costOf 6 = .ok (.aload_n 0, 1) := by decide +kernel
theorem dX5_costOf_7 : decode cX5_costOf 7 = .ok (.iconst 4, 1) := by decide +kernel
theorem dX5_costOf_8 : decode cX5_costOf 8 = .ok (.iload_n 1, 1) := by decide +kernel
theorem dX5_costOf_9 : decode cX5_costOf 9 = .ok (.invokevirtual 70, 3) := by decide +kernel
theorem dX5_costOf_12 : decode cX5_costOf 12 = .ok (.aload_n 0, 1) := by decide +kernel
theorem dX5_costOf_13 : decode cX5_costOf 13 = .ok (.iconst 5, 1) := by decide +kernel
theorem dX5_costOf_14 : decode cX5_costOf 14 = .ok (.iload_n 1, 1) := by decide +kernel
theorem dX5_costOf_15 : decode cX5_costOf 15 = .ok (.invokevirtual 70, 3) := by decide +kernel
theorem dX5_costOf_18 : decode cX5_costOf 18 = .ok (.aload_n 0, 1) := by decide +kernel
theorem dX5_costOf_19 : decode cX5_costOf 19 = .ok (.getfield 9, 3) := by decide +kernel
theorem dX5_costOf_22 : decode cX5_costOf 22 = .ok (.iconst 1, 1) := by decide +kernel
theorem dX5_costOf_23 : decode cX5_costOf 23 = .ok (.iaload, 1) := by decide +kernel
theorem dX5_costOf_24 : decode cX5_costOf 24 = .ok (.invokestatic 116, 3) := by decide +kernel
theorem dX5_costOf_27 : decode cX5_costOf 27 = .ok (.ireturn, 1) := by decide +kernel
abbrev rm_X5_costOf : Room := { frames := 2, cells := 0, slots := 0, locals := 44 }
theorem m_X5_costOf (l : Launch) (O : oa_O) (h : Nat → Nat) (V : oa_I2) (x1 : Int32) (res : Int32) (hf : f_X5_costOf V x1 = some res) : oa_M l yX5_costOf cX5_costOf 2 (some .int) rm_X5_costOf O [.ref (h 0), .int x1] (wd_V O h V) (some (.int res)) (fun W1 => W1 = wd_V O h V) := by
  refine oa_Mof (by decide) (Nat.le_of_ble_eq_true rfl) (fun G A hl C => ?_)
  subst hl
  have C : oa_C G cX5_costOf 2 RX5 (some .int) rm_X5_costOf O A := C
  have hf : f_X5_costOf V x1 = some res := hf
  delta f_X5_costOf at hf
  show ww G 2 O A (oa_Q G O A (0, 0) (some (.int res)) (fun W1 => W1 = wd_V O h V)) (0, 0) 0 [(0, .ref (h 0)), (1, .int x1)] [] (wd_V O h V)
  refine ww_aload_n (pc := 0) (i := 0) C 0 dX5_costOf_0 rfl rfl ?_
  refine ww_iconst (pc := 1) C dX5_costOf_1 kc_3 ?_
  refine ww_iload_n (pc := 2) (i := 1) C 1 dX5_costOf_2 rfl rfl ?_
  obtain ⟨y1, e2, hf⟩ := oa_bind hf
  refine ww_callV (pc := 3) (As := [.int 3, .int x1]) (rest := []) (wd := wd_V O h V) (ws' := wd_V O h V) (rv := (some (.int y1))) C hY_X5_trait hV_X5_trait lk_X5_70 (m_X5_trait _ O h V 3 x1 _ e2) [0, 1, 2, 3, 4, 5] 0 rfl rfl rfl rfl rfl (oa_putS _ _ _ rfl) (fun _ h => h) ⟨rfl, rfl⟩ ⟨Nat.zero_le _, Nat.zero_le _⟩ ⟨Nat.le_of_ble_eq_true rfl, Nat.le_of_ble_eq_true rfl⟩ rfl (Nat.le_of_ble_eq_true rfl) rfl rfl dX5_costOf_3 ?_
  refine ww_aload_n (pc := 6) (i := 0) C 0 dX5_costOf_6 rfl rfl ?_
  refine ww_iconst (pc := 7) C dX5_costOf_7 kc_4 ?_
  refine ww_iload_n (pc := 8) (i := 1) C 1 dX5_costOf_8 rfl rfl ?_
  obtain ⟨y4, e5, hf⟩ := oa_bind hf
  refine ww_callV (pc := 9) (As := [.int 4, .int x1]) (rest := [.int y1]) (wd := wd_V O h V) (ws' := wd_V O h V) (rv := (some (.int y4))) C hY_X5_trait hV_X5_trait lk_X5_70 (m_X5_trait _ O h V 4 x1 _ e5) [0, 1, 2, 3, 4, 5] 0 rfl rfl rfl rfl rfl (oa_putS _ _ _ rfl) (fun _ h => h) ⟨rfl, rfl⟩ ⟨Nat.zero_le _, Nat.zero_le _⟩ ⟨Nat.le_of_ble_eq_true rfl, Nat.le_of_ble_eq_true rfl⟩ rfl (Nat.le_of_ble_eq_true rfl) rfl rfl dX5_costOf_9 ?_
  refine ww_aload_n (pc := 12) (i := 0) C 0 dX5_costOf_12 rfl rfl ?_
  refine ww_iconst (pc := 13) C dX5_costOf_13 kc_5 ?_
  refine ww_iload_n (pc := 14) (i := 1) C 1 dX5_costOf_14 rfl rfl ?_
  obtain ⟨y7, e8, hf⟩ := oa_bind hf
  refine ww_callV (pc := 15) (As := [.int 5, .int x1]) (rest := [.int y4, .int y1]) (wd := wd_V O h V) (ws' := wd_V O h V) (rv := (some (.int y7))) C hY_X5_trait hV_X5_trait lk_X5_70 (m_X5_trait _ O h V 5 x1 _ e8) [0, 1, 2, 3, 4, 5] 0 rfl rfl rfl rfl rfl (oa_putS _ _ _ rfl) (fun _ h => h) ⟨rfl, rfl⟩ ⟨Nat.zero_le _, Nat.zero_le _⟩ ⟨Nat.le_of_ble_eq_true rfl, Nat.le_of_ble_eq_true rfl⟩ rfl (Nat.le_of_ble_eq_true rfl) rfl rfl dX5_costOf_15 ?_
  refine ww_aload_n (pc := 18) (i := 0) C 0 dX5_costOf_18 rfl rfl ?_
  refine ww_get (pc := 19) C fl_X5_9 0 rfl rfl dX5_costOf_19 ?_
  refine ww_iconst (pc := 22) C dX5_costOf_22 kc_1 ?_
  obtain ⟨y10, e11, hf⟩ := oa_bind hf
  refine ww_iald (pc := 23) C 1 rfl e11 dX5_costOf_23 ?_
  obtain ⟨y12, e13, hf⟩ := oa_bind hf
  refine ww_callN (pc := 24) (ho := "OneAnger") (As := [.int y1, .int y4, .int y7, .int y10]) (rest := []) (wd := []) (ws' := wd_V O h V) (rv := (some (.int y12))) C hY_X6_costFor hS_X6_costFor (by decide +kernel) (m_X6_costFor _ O  y1 y4 y7 y10 _ e13) [] rfl rfl rfl (oa_putS _ _ _ rfl) (fun _ h => h) ⟨rfl, rfl⟩ ⟨Nat.zero_le _, Nat.zero_le _⟩ ⟨Nat.le_of_ble_eq_true rfl, Nat.le_of_ble_eq_true rfl⟩ rfl (Nat.le_of_ble_eq_true rfl) rfl rfl dX5_costOf_24 ?_
  obtain rfl := Option.some.inj hf
  exact ww_iret (pc := 27) C rfl dX5_costOf_27
theorem dX5_value_0 : decode cX5_value 0 = .ok (.aload_n 0, 1) := by decide +kernel
theorem dX5_value_1 : decode cX5_value 1 = .ok (.iconst 1, 1) := by decide +kernel
theorem dX5_value_2 : decode cX5_value 2 = .ok (.iload_n 1, 1) := by decide +kernel
theorem dX5_value_3 : decode cX5_value 3 = .ok (.invokevirtual 70, 3) := by decide +kernel
theorem dX5_value_6 : decode cX5_value 6 = .ok (.istore_n 3, 1) := by decide +kernel
theorem dX5_value_7 : decode cX5_value 7 = .ok (.iconst 0, 1) := by decide +kernel
theorem dX5_value_8 : decode cX5_value 8 = .ok (.istore 4, 2) := by decide +kernel
theorem dX5_value_10 : decode cX5_value 10 = .ok (.iload 4, 2) := by decide +kernel
theorem dX5_value_12 : decode cX5_value 12 = .ok (.aload_n 0, 1) := by decide +kernel
theorem dX5_value_13 : decode cX5_value 13 = .ok (.getfield 49, 3) := by decide +kernel
theorem dX5_value_16 : decode cX5_value 16 = .ok (.if_icmp .ge 37, 3) := by decide +kernel
theorem dX5_value_19 : decode cX5_value 19 = .ok (.iload_n 2, 1) := by decide +kernel
theorem dX5_value_20 : decode cX5_value 20 = .ok (.iload 4, 2) := by decide +kernel
theorem dX5_value_22 : decode cX5_value 22 = .ok (.ishr, 1) := by decide +kernel
theorem dX5_value_23 : decode cX5_value 23 = .ok (.iconst 1, 1) := by decide +kernel
theorem dX5_value_24 : decode cX5_value 24 = .ok (.iand, 1) := by decide +kernel
theorem dX5_value_25 : decode cX5_value 25 = .ok (.ifCond .eq 22, 3) := by decide +kernel
theorem dX5_value_28 : decode cX5_value 28 = .ok (.aload_n 0, 1) := by decide +kernel
theorem dX5_value_29 : decode cX5_value 29 = .ok (.iload 4, 2) := by decide +kernel
theorem dX5_value_31 : decode cX5_value 31 = .ok (.iload_n 1, 1) := by decide +kernel
theorem dX5_value_32 : decode cX5_value 32 = .ok (.invokevirtual 113, 3) := by decide +kernel
theorem dX5_value_35 : decode cX5_value 35 = .ok (.ifCond .eq 12, 3) := by decide +kernel
theorem dX5_value_38 : decode cX5_value 38 = .ok (.iload_n 3, 1) := by decide +kernel
theorem dX5_value_39 : decode cX5_value 39 = .ok (.aload_n 0, 1) := by decide +kernel
theorem dX5_value_40 : decode cX5_value 40 = .ok (.iload 4, 2) := by decide +kernel
theorem dX5_value_42 : decode cX5_value 42 = .ok (.invokevirtual 120, 3) := by decide +kernel
theorem dX5_value_45 : decode cX5_value 45 = .ok (.isub, 1) := by decide +kernel
theorem dX5_value_46 : decode cX5_value 46 = .ok (.istore_n 3, 1) := by decide +kernel
theorem dX5_value_47 : decode cX5_value 47 = .ok (.iinc 4 1, 3) := by decide +kernel
theorem dX5_value_50 : decode cX5_value 50 = .ok (.goto (-40), 3) := by decide +kernel
theorem dX5_value_53 : decode cX5_value 53 = .ok (.iload_n 3, 1) := by decide +kernel
theorem dX5_value_54 : decode cX5_value 54 = .ok (.ireturn, 1) := by decide +kernel
abbrev rm_X5_value : Room := { frames := 3, cells := 0, slots := 0, locals := 65 }
theorem t_b_X5_value_10 {G : oa_G} {O : oa_O} {A : Nat → Prop} {h : Nat → Nat} {res : Int32} (C : oa_C G cX5_value 5 RX5 (some .int) rm_X5_value O A) (V : oa_I2) (x1 : Int32) (x2 : Int32)    (k10 : Int32 → Int32 → Option (Int32))  (hk10 : ∀ (b_x3 : Int32) (b_x4 : Int32), k10 b_x3 b_x4 = some res → ww G 5 O A (oa_Q G O A (0, 0) (some (.int res)) (fun W1 => W1 = wd_V O h V)) (0, 0) 10 [(0, .ref (h 0)), (1, .int x1), (2, .int x2), (3, .int b_x3), (4, .int b_x4)] [] (wd_V O h V)) (x3 : Int32) (x4 : Int32) (hf : b_X5_value_10 V x1 x2 k10 x3 x4 = some res) : ww G 5 O A (oa_Q G O A (0, 0) (some (.int res)) (fun W1 => W1 = wd_V O h V)) (0, 0) 10 [(0, .ref (h 0)), (1, .int x1), (2, .int x2), (3, .int x3), (4, .int x4)] [] (wd_V O h V) := by
  delta b_X5_value_10 at hf
  refine ww_iload (pc := 10) (i := 4) C 4 dX5_value_10 rfl ?_
  refine ww_aload_n (pc := 12) (i := 0) C 0 dX5_value_12 rfl rfl ?_
  refine ww_get (pc := 13) C fl_X5_49 0 rfl rfl dX5_value_13 ?_
  refine ww_icmp_ge (pc := 16) (tgt := 53) C dX5_value_16 (by decide) (fun c4 => ?_) (fun c4 => ?_)
  · have hf := oa_ifp c4 hf
    refine ww_iload_n (pc := 53) (i := 3) C 3 dX5_value_53 rfl rfl ?_
    obtain rfl := Option.some.inj hf
    exact ww_iret (pc := 54) C rfl dX5_value_54
  · have hf := oa_ifn c4 hf
    refine ww_iload_n (pc := 19) (i := 2) C 2 dX5_value_19 rfl rfl ?_
    refine ww_iload (pc := 20) (i := 4) C 4 dX5_value_20 rfl ?_
    refine ww_ishr (pc := 22) C dX5_value_22 ?_
    refine ww_iconst (pc := 23) C dX5_value_23 kc_1 ?_
    refine ww_iand (pc := 24) C dX5_value_24 ?_
    refine ww_if_eq (pc := 25) (tgt := 47) C dX5_value_25 (by decide) (fun c5 => ?_) (fun c5 => ?_)
    · have hf := oa_ifp c5 hf
      refine ww_iinc (pc := 47) (v := (x4 + 1)) (L' := [(0, .ref (h 0)), (1, .int x1), (2, .int x2), (3, .int x3), (4, .int (x4 + 1))]) C 4 [1, 2, 3, 4, 0] dX5_value_47 rfl (ki_1 _) (Nat.le_of_ble_eq_true rfl) rfl ?_
      refine ww_goto (pc := 50) (tgt := 10) C dX5_value_50 (by decide) ?_
      exact hk10 x3 (x4 + 1) hf
    · have hf := oa_ifn c5 hf
      refine ww_aload_n (pc := 28) (i := 0) C 0 dX5_value_28 rfl rfl ?_
      refine ww_iload (pc := 29) (i := 4) C 4 dX5_value_29 rfl ?_
      refine ww_iload_n (pc := 31) (i := 1) C 1 dX5_value_31 rfl rfl ?_
      obtain ⟨y6, e7, hf⟩ := oa_bind hf
      refine ww_callV (pc := 32) (As := [.int x4, .int x1]) (rest := []) (wd := wd_V O h V) (ws' := wd_V O h V) (rv := (some (.int y6))) C hY_X5_minds hV_X5_minds lk_X5_113 (m_X5_minds _ O h V x4 x1 _ e7) [0, 1, 2, 3, 4, 5] 0 rfl rfl rfl rfl rfl (oa_putS _ _ _ rfl) (fun _ h => h) ⟨rfl, rfl⟩ ⟨Nat.zero_le _, Nat.zero_le _⟩ ⟨Nat.le_of_ble_eq_true rfl, Nat.le_of_ble_eq_true rfl⟩ rfl (Nat.le_of_ble_eq_true rfl) rfl rfl dX5_value_32 ?_
      refine ww_if_eq (pc := 35) (tgt := 47) C dX5_value_35 (by decide) (fun c9 => ?_) (fun c9 => ?_)
      · have hf := oa_ifp c9 hf
        refine ww_iinc (pc := 47) (v := (x4 + 1)) (L' := [(0, .ref (h 0)), (1, .int x1), (2, .int x2), (3, .int x3), (4, .int (x4 + 1))]) C 4 [1, 2, 3, 4, 0] dX5_value_47 rfl (ki_1 _) (Nat.le_of_ble_eq_true rfl) rfl ?_
        refine ww_goto (pc := 50) (tgt := 10) C dX5_value_50 (by decide) ?_
        exact hk10 x3 (x4 + 1) hf
      · have hf := oa_ifn c9 hf
        refine ww_iload_n (pc := 38) (i := 3) C 3 dX5_value_38 rfl rfl ?_
        refine ww_aload_n (pc := 39) (i := 0) C 0 dX5_value_39 rfl rfl ?_
        refine ww_iload (pc := 40) (i := 4) C 4 dX5_value_40 rfl ?_
        obtain ⟨y10, e11, hf⟩ := oa_bind hf
        refine ww_callV (pc := 42) (As := [.int x4]) (rest := [.int x3]) (wd := wd_V O h V) (ws' := wd_V O h V) (rv := (some (.int y10))) C hY_X5_costOf hV_X5_costOf lk_X5_120 (m_X5_costOf _ O h V x4 _ e11) [0, 1, 2, 3, 4, 5] 0 rfl rfl rfl rfl rfl (oa_putS _ _ _ rfl) (fun _ h => h) ⟨rfl, rfl⟩ ⟨Nat.zero_le _, Nat.zero_le _⟩ ⟨Nat.le_of_ble_eq_true rfl, Nat.le_of_ble_eq_true rfl⟩ rfl (Nat.le_of_ble_eq_true rfl) rfl rfl dX5_value_42 ?_
        refine ww_isub (pc := 45) C dX5_value_45 ?_
        obtain ⟨y13, e14, hf⟩ := oa_letE hf
        refine ww_topi C e14 ?_
        refine ww_istore_n (pc := 46) (L' := [(0, .ref (h 0)), (1, .int x1), (2, .int x2), (3, .int y13), (4, .int x4)]) C [1, 2, 3, 0, 4] dX5_value_46 rfl (Nat.le_of_ble_eq_true rfl) rfl ?_
        refine ww_iinc (pc := 47) (v := (x4 + 1)) (L' := [(0, .ref (h 0)), (1, .int x1), (2, .int x2), (3, .int y13), (4, .int (x4 + 1))]) C 4 [1, 2, 3, 4, 0] dX5_value_47 rfl (ki_1 _) (Nat.le_of_ble_eq_true rfl) rfl ?_
        refine ww_goto (pc := 50) (tgt := 10) C dX5_value_50 (by decide) ?_
        exact hk10 y13 (x4 + 1) hf
theorem t_l_X5_value_10 {G : oa_G} {O : oa_O} {A : Nat → Prop} {h : Nat → Nat} {res : Int32} (C : oa_C G cX5_value 5 RX5 (some .int) rm_X5_value O A) (V : oa_I2) (x1 : Int32) (x2 : Int32)    : ∀ (n : Nat) (x3 : Int32) (x4 : Int32), l_X5_value_10 V x1 x2 n x3 x4 = some res → ww G 5 O A (oa_Q G O A (0, 0) (some (.int res)) (fun W1 => W1 = wd_V O h V)) (0, 0) 10 [(0, .ref (h 0)), (1, .int x1), (2, .int x2), (3, .int x3), (4, .int x4)] [] (wd_V O h V) := by
  intro n
  induction n with
  | zero => intro x3 x4 hf; exact absurd (show (none : Option (Int32)) = some res from hf) (fun h => nomatch h)
  | succ n ih =>
    intro x3 x4 hf
    exact t_b_X5_value_10 C V x1 x2  (fun x3 x4 => l_X5_value_10 V x1 x2 n x3 x4)  (fun x3 x4 h => ih x3 x4 h) x3 x4 hf
theorem m_X5_value (l : Launch) (O : oa_O) (h : Nat → Nat) (V : oa_I2) (x1 : Int32) (x2 : Int32) (res : Int32) (hf : f_X5_value V x1 x2 = some res) : oa_M l yX5_value cX5_value 5 (some .int) rm_X5_value O [.ref (h 0), .int x1, .int x2] (wd_V O h V) (some (.int res)) (fun W1 => W1 = wd_V O h V) := by
  refine oa_Mof (by decide) (Nat.le_of_ble_eq_true rfl) (fun G A hl C => ?_)
  subst hl
  have C : oa_C G cX5_value 5 RX5 (some .int) rm_X5_value O A := C
  have hf : f_X5_value V x1 x2 = some res := hf
  delta f_X5_value at hf
  show ww G 5 O A (oa_Q G O A (0, 0) (some (.int res)) (fun W1 => W1 = wd_V O h V)) (0, 0) 0 [(0, .ref (h 0)), (1, .int x1), (2, .int x2)] [] (wd_V O h V)
  refine ww_aload_n (pc := 0) (i := 0) C 0 dX5_value_0 rfl rfl ?_
  refine ww_iconst (pc := 1) C dX5_value_1 kc_1 ?_
  refine ww_iload_n (pc := 2) (i := 1) C 1 dX5_value_2 rfl rfl ?_
  obtain ⟨y1, e2, hf⟩ := oa_bind hf
  refine ww_callV (pc := 3) (As := [.int 1, .int x1]) (rest := []) (wd := wd_V O h V) (ws' := wd_V O h V) (rv := (some (.int y1))) C hY_X5_trait hV_X5_trait lk_X5_70 (m_X5_trait _ O h V 1 x1 _ e2) [0, 1, 2, 3, 4, 5] 0 rfl rfl rfl rfl rfl (oa_putS _ _ _ rfl) (fun _ h => h) ⟨rfl, rfl⟩ ⟨Nat.zero_le _, Nat.zero_le _⟩ ⟨Nat.le_of_ble_eq_true rfl, Nat.le_of_ble_eq_true rfl⟩ rfl (Nat.le_of_ble_eq_true rfl) rfl rfl dX5_value_3 ?_
  refine ww_istore_n (pc := 6) (L' := [(0, .ref (h 0)), (1, .int x1), (2, .int x2), (3, .int y1)]) C [1, 2, 3, 0] dX5_value_6 rfl (Nat.le_of_ble_eq_true rfl) rfl ?_
  refine ww_iconst (pc := 7) C dX5_value_7 kc_0 ?_
  refine ww_istore (pc := 8) (L' := [(0, .ref (h 0)), (1, .int x1), (2, .int x2), (3, .int y1), (4, .int 0)]) C [1, 2, 3, 4, 0] dX5_value_8 (Nat.le_of_ble_eq_true rfl) rfl ?_
  exact t_l_X5_value_10 C V x1 x2    oa_fu y1 0 hf
theorem dX5_choice_0 : decode cX5_choice 0 = .ok (.bipush (-4), 2) := by decide +kernel
theorem dX5_choice_2 : decode cX5_choice 2 = .ok (.istore_n 3, 1) := by decide +kernel
theorem dX5_choice_3 : decode cX5_choice 3 = .ok (.iconst 0, 1) := by decide +kernel
theorem dX5_choice_4 : decode cX5_choice 4 = .ok (.istore 4, 2) := by decide +kernel
theorem dX5_choice_6 : decode cX5_choice 6 = .ok (.iconst 0, 1) := by decide +kernel
theorem dX5_choice_7 : decode cX5_choice 7 = .ok (.istore 5, 2) := by decide +kernel
theorem dX5_choice_9 : decode cX5_choice 9 = .ok (.iload 5, 2) := by decide +kernel
theorem dX5_choice_11 : decode cX5_choice 11 = .ok (.aload_n 0, 1) := by decide +kernel
theorem dX5_choice_12 : decode cX5_choice 12 = .ok (.getfield 49, 3) := by decide +kernel
theorem dX5_choice_15 : decode cX5_choice 15 = .ok (.if_icmp .ge 38, 3) := by decide +kernel
theorem dX5_choice_18 : decode cX5_choice 18 = .ok (.iload 5, 2) := by decide +kernel
theorem dX5_choice_20 : decode cX5_choice 20 = .ok (.iload_n 1, 1) := by decide +kernel
theorem dX5_choice_21 : decode cX5_choice 21 = .ok (.if_icmp .eq 26, 3) := by decide +kernel
theorem dX5_choice_24 : decode cX5_choice 24 = .ok (.aload_n 0, 1) := by decide +kernel
theorem dX5_choice_25 : decode cX5_choice 25 = .ok (.iload 5, 2) := by decide +kernel
theorem dX5_choice_27 : decode cX5_choice 27 = .ok (.iload_n 2, 1) := by decide +kernel
theorem dX5_choice_28 : decode cX5_choice 28 = .ok (.invokevirtual 123, 3) := by decide +kernel
theorem dX5_choice_31 : decode cX5_choice 31 = .ok (.istore 6, 2) := by decide +kernel
theorem dX5_choice_33 : decode cX5_choice 33 = .ok (.iload 6, 2) := by decide +kernel
theorem dX5_choice_35 : decode cX5_choice 35 = .ok (.iload 4, 2) := by decide +kernel
theorem dX5_choice_37 : decode cX5_choice 37 = .ok (.if_icmp .le 10, 3) := by decide +kernel
theorem dX5_choice_40 : decode cX5_choice 40 = .ok (.iload 6, 2) := by decide +kernel
theorem dX5_choice_42 : decode cX5_choice 42 = .ok (.istore 4, 2) := by decide +kernel
theorem dX5_choice_44 : decode cX5_choice 44 = .ok (.iload 5, 2) := by decide +kernel
theorem dX5_choice_46 : decode cX5_choice 46 = .ok (.istore_n 3, 1) := by decide +kernel
theorem dX5_choice_47 : decode cX5_choice 47 = .ok (.iinc 5 1, 3) := by decide +kernel
theorem dX5_choice_50 : decode cX5_choice 50 = .ok (.goto (-41), 3) := by decide +kernel
theorem dX5_choice_53 : decode cX5_choice 53 = .ok (.iload_n 3, 1) := by decide +kernel
theorem dX5_choice_54 : decode cX5_choice 54 = .ok (.ireturn, 1) := by decide +kernel
abbrev rm_X5_choice : Room := { frames := 4, cells := 0, slots := 0, locals := 89 }
theorem t_b_X5_choice_9 {G : oa_G} {O : oa_O} {A : Nat → Prop} {h : Nat → Nat} {res : Int32} (C : oa_C G cX5_choice 7 RX5 (some .int) rm_X5_choice O A) (V : oa_I2) (x1 : Int32) (x2 : Int32)    (k9 : Int32 → Int32 → Int32 → Option (Int32))  (hk9 : ∀ (b_x3 : Int32) (b_x4 : Int32) (b_x5 : Int32), k9 b_x3 b_x4 b_x5 = some res → ww G 7 O A (oa_Q G O A (0, 0) (some (.int res)) (fun W1 => W1 = wd_V O h V)) (0, 0) 9 [(0, .ref (h 0)), (1, .int x1), (2, .int x2), (3, .int b_x3), (4, .int b_x4), (5, .int b_x5)] [] (wd_V O h V)) (x3 : Int32) (x4 : Int32) (x5 : Int32) (hf : b_X5_choice_9 V x1 x2 k9 x3 x4 x5 = some res) : ww G 7 O A (oa_Q G O A (0, 0) (some (.int res)) (fun W1 => W1 = wd_V O h V)) (0, 0) 9 [(0, .ref (h 0)), (1, .int x1), (2, .int x2), (3, .int x3), (4, .int x4), (5, .int x5)] [] (wd_V O h V) := by
  delta b_X5_choice_9 at hf
  refine ww_iload (pc := 9) (i := 5) C 5 dX5_choice_9 rfl ?_
  refine ww_aload_n (pc := 11) (i := 0) C 0 dX5_choice_11 rfl rfl ?_
  refine ww_get (pc := 12) C fl_X5_49 0 rfl rfl dX5_choice_12 ?_
  refine ww_icmp_ge (pc := 15) (tgt := 53) C dX5_choice_15 (by decide) (fun c1 => ?_) (fun c1 => ?_)
  · have hf := oa_ifp c1 hf
    refine ww_iload_n (pc := 53) (i := 3) C 3 dX5_choice_53 rfl rfl ?_
    obtain rfl := Option.some.inj hf
    exact ww_iret (pc := 54) C rfl dX5_choice_54
  · have hf := oa_ifn c1 hf
    refine ww_iload (pc := 18) (i := 5) C 5 dX5_choice_18 rfl ?_
    refine ww_iload_n (pc := 20) (i := 1) C 1 dX5_choice_20 rfl rfl ?_
    refine ww_icmp_eq (pc := 21) (tgt := 47) C dX5_choice_21 (by decide) (fun c2 => ?_) (fun c2 => ?_)
    · have hf := oa_ifp c2 hf
      refine ww_iinc (pc := 47) (v := (x5 + 1)) (L' := [(0, .ref (h 0)), (1, .int x1), (2, .int x2), (3, .int x3), (4, .int x4), (5, .int (x5 + 1))]) C 5 [1, 2, 3, 4, 5, 0] dX5_choice_47 rfl (ki_1 _) (Nat.le_of_ble_eq_true rfl) rfl ?_
      refine ww_goto (pc := 50) (tgt := 9) C dX5_choice_50 (by decide) ?_
      exact hk9 x3 x4 (x5 + 1) hf
    · have hf := oa_ifn c2 hf
      refine ww_aload_n (pc := 24) (i := 0) C 0 dX5_choice_24 rfl rfl ?_
      refine ww_iload (pc := 25) (i := 5) C 5 dX5_choice_25 rfl ?_
      refine ww_iload_n (pc := 27) (i := 2) C 2 dX5_choice_27 rfl rfl ?_
      obtain ⟨y3, e4, hf⟩ := oa_bind hf
      refine ww_callV (pc := 28) (As := [.int x5, .int x2]) (rest := []) (wd := wd_V O h V) (ws' := wd_V O h V) (rv := (some (.int y3))) C hY_X5_value hV_X5_value lk_X5_123 (m_X5_value _ O h V x5 x2 _ e4) [0, 1, 2, 3, 4, 5] 0 rfl rfl rfl rfl rfl (oa_putS _ _ _ rfl) (fun _ h => h) ⟨rfl, rfl⟩ ⟨Nat.zero_le _, Nat.zero_le _⟩ ⟨Nat.le_of_ble_eq_true rfl, Nat.le_of_ble_eq_true rfl⟩ rfl (Nat.le_of_ble_eq_true rfl) rfl rfl dX5_choice_28 ?_
      refine ww_istore (pc := 31) (L' := [(0, .ref (h 0)), (1, .int x1), (2, .int x2), (3, .int x3), (4, .int x4), (5, .int x5), (6, .int y3)]) C [1, 2, 3, 4, 5, 6, 0] dX5_choice_31 (Nat.le_of_ble_eq_true rfl) rfl ?_
      refine ww_iload (pc := 33) (i := 6) C 6 dX5_choice_33 rfl ?_
      refine ww_iload (pc := 35) (i := 4) C 4 dX5_choice_35 rfl ?_
      refine ww_icmp_le (pc := 37) (tgt := 47) C dX5_choice_37 (by decide) (fun c6 => ?_) (fun c6 => ?_)
      · have hf := oa_ifp c6 hf
        refine ww_iinc (pc := 47) (v := (x5 + 1)) (L' := [(0, .ref (h 0)), (1, .int x1), (2, .int x2), (3, .int x3), (4, .int x4), (5, .int (x5 + 1)), (6, .int y3)]) C 5 [1, 2, 3, 4, 5, 0, 6] dX5_choice_47 rfl (ki_1 _) (Nat.le_of_ble_eq_true rfl) rfl ?_
        refine ww_goto (pc := 50) (tgt := 9) C dX5_choice_50 (by decide) ?_
        refine ww_sub C [0, 1, 2, 3, 4, 5] rfl ?_
        exact hk9 x3 x4 (x5 + 1) hf
      · have hf := oa_ifn c6 hf
        refine ww_iload (pc := 40) (i := 6) C 6 dX5_choice_40 rfl ?_
        refine ww_istore (pc := 42) (L' := [(0, .ref (h 0)), (1, .int x1), (2, .int x2), (3, .int x3), (4, .int y3), (5, .int x5), (6, .int y3)]) C [1, 2, 3, 4, 0, 5, 6] dX5_choice_42 (Nat.le_of_ble_eq_true rfl) rfl ?_
        refine ww_iload (pc := 44) (i := 5) C 5 dX5_choice_44 rfl ?_
        refine ww_istore_n (pc := 46) (L' := [(0, .ref (h 0)), (1, .int x1), (2, .int x2), (3, .int x5), (4, .int y3), (5, .int x5), (6, .int y3)]) C [1, 2, 3, 0, 4, 5, 6] dX5_choice_46 rfl (Nat.le_of_ble_eq_true rfl) rfl ?_
        refine ww_iinc (pc := 47) (v := (x5 + 1)) (L' := [(0, .ref (h 0)), (1, .int x1), (2, .int x2), (3, .int x5), (4, .int y3), (5, .int (x5 + 1)), (6, .int y3)]) C 5 [1, 2, 3, 4, 5, 0, 6] dX5_choice_47 rfl (ki_1 _) (Nat.le_of_ble_eq_true rfl) rfl ?_
        refine ww_goto (pc := 50) (tgt := 9) C dX5_choice_50 (by decide) ?_
        refine ww_sub C [0, 1, 2, 3, 4, 5] rfl ?_
        exact hk9 x5 y3 (x5 + 1) hf
theorem t_l_X5_choice_9 {G : oa_G} {O : oa_O} {A : Nat → Prop} {h : Nat → Nat} {res : Int32} (C : oa_C G cX5_choice 7 RX5 (some .int) rm_X5_choice O A) (V : oa_I2) (x1 : Int32) (x2 : Int32)    : ∀ (n : Nat) (x3 : Int32) (x4 : Int32) (x5 : Int32), l_X5_choice_9 V x1 x2 n x3 x4 x5 = some res → ww G 7 O A (oa_Q G O A (0, 0) (some (.int res)) (fun W1 => W1 = wd_V O h V)) (0, 0) 9 [(0, .ref (h 0)), (1, .int x1), (2, .int x2), (3, .int x3), (4, .int x4), (5, .int x5)] [] (wd_V O h V) := by
  intro n
  induction n with
  | zero => intro x3 x4 x5 hf; exact absurd (show (none : Option (Int32)) = some res from hf) (fun h => nomatch h)
  | succ n ih =>
    intro x3 x4 x5 hf
    exact t_b_X5_choice_9 C V x1 x2  (fun x3 x4 x5 => l_X5_choice_9 V x1 x2 n x3 x4 x5)  (fun x3 x4 x5 h => ih x3 x4 x5 h) x3 x4 x5 hf
theorem m_X5_choice (l : Launch) (O : oa_O) (h : Nat → Nat) (V : oa_I2) (x1 : Int32) (x2 : Int32) (res : Int32) (hf : f_X5_choice V x1 x2 = some res) : oa_M l yX5_choice cX5_choice 7 (some .int) rm_X5_choice O [.ref (h 0), .int x1, .int x2] (wd_V O h V) (some (.int res)) (fun W1 => W1 = wd_V O h V) := by
  refine oa_Mof (by decide) (Nat.le_of_ble_eq_true rfl) (fun G A hl C => ?_)
  subst hl
  have C : oa_C G cX5_choice 7 RX5 (some .int) rm_X5_choice O A := C
  have hf : f_X5_choice V x1 x2 = some res := hf
  delta f_X5_choice at hf
  show ww G 7 O A (oa_Q G O A (0, 0) (some (.int res)) (fun W1 => W1 = wd_V O h V)) (0, 0) 0 [(0, .ref (h 0)), (1, .int x1), (2, .int x2)] [] (wd_V O h V)
  refine ww_bipush (pc := 0) C dX5_choice_0 kb_m4 ?_
  refine ww_istore_n (pc := 2) (L' := [(0, .ref (h 0)), (1, .int x1), (2, .int x2), (3, .int (-4))]) C [1, 2, 3, 0] dX5_choice_2 rfl (Nat.le_of_ble_eq_true rfl) rfl ?_
  refine ww_iconst (pc := 3) C dX5_choice_3 kc_0 ?_
  refine ww_istore (pc := 4) (L' := [(0, .ref (h 0)), (1, .int x1), (2, .int x2), (3, .int (-4)), (4, .int 0)]) C [1, 2, 3, 4, 0] dX5_choice_4 (Nat.le_of_ble_eq_true rfl) rfl ?_
  refine ww_iconst (pc := 6) C dX5_choice_6 kc_0 ?_
  refine ww_istore (pc := 7) (L' := [(0, .ref (h 0)), (1, .int x1), (2, .int x2), (3, .int (-4)), (4, .int 0), (5, .int 0)]) C [1, 2, 3, 4, 5, 0] dX5_choice_7 (Nat.le_of_ble_eq_true rfl) rfl ?_
  exact t_l_X5_choice_9 C V x1 x2    oa_fu (-4) 0 0 hf
theorem dX5_ageOf_0 : decode cX5_ageOf 0 = .ok (.aload_n 0, 1) := by decide +kernel
theorem dX5_ageOf_1 : decode cX5_ageOf 1 = .ok (.getfield 21, 3) := by decide +kernel
theorem dX5_ageOf_4 : decode cX5_ageOf 4 = .ok (.iload_n 1, 1) := by decide +kernel
theorem dX5_ageOf_5 : decode cX5_ageOf 5 = .ok (.bipush 6, 2) := by decide +kernel
theorem dX5_ageOf_7 : decode cX5_ageOf 7 = .ok (.imul, 1) := by decide +kernel
theorem dX5_ageOf_8 : decode cX5_ageOf 8 = .ok (.iload_n 2, 1) := by decide +kernel
theorem dX5_ageOf_9 : decode cX5_ageOf 9 = .ok (.iadd, 1) := by decide +kernel
theorem dX5_ageOf_10 : decode cX5_ageOf 10 = .ok (.iaload, 1) := by decide +kernel
theorem dX5_ageOf_11 : decode cX5_ageOf 11 = .ok (.ireturn, 1) := by decide +kernel
abbrev rm_X5_ageOf : Room := { frames := 0, cells := 0, slots := 0, locals := 0 }
theorem m_X5_ageOf (l : Launch) (O : oa_O) (h : Nat → Nat) (V : oa_I2) (x1 : Int32) (x2 : Int32) (res : Int32) (hf : f_X5_ageOf V x1 x2 = some res) : oa_M l yX5_ageOf cX5_ageOf 3 (some .int) rm_X5_ageOf O [.ref (h 0), .int x1, .int x2] (wd_V O h V) (some (.int res)) (fun W1 => W1 = wd_V O h V) := by
  refine oa_Mof (by decide) (Nat.le_of_ble_eq_true rfl) (fun G A hl C => ?_)
  subst hl
  have C : oa_C G cX5_ageOf 3 RX5 (some .int) rm_X5_ageOf O A := C
  have hf : f_X5_ageOf V x1 x2 = some res := hf
  delta f_X5_ageOf at hf
  show ww G 3 O A (oa_Q G O A (0, 0) (some (.int res)) (fun W1 => W1 = wd_V O h V)) (0, 0) 0 [(0, .ref (h 0)), (1, .int x1), (2, .int x2)] [] (wd_V O h V)
  refine ww_aload_n (pc := 0) (i := 0) C 0 dX5_ageOf_0 rfl rfl ?_
  refine ww_get (pc := 1) C fl_X5_21 0 rfl rfl dX5_ageOf_1 ?_
  refine ww_iload_n (pc := 4) (i := 1) C 1 dX5_ageOf_4 rfl rfl ?_
  refine ww_bipush (pc := 5) C dX5_ageOf_5 kb_6 ?_
  refine ww_imul (pc := 7) C dX5_ageOf_7 ?_
  refine ww_iload_n (pc := 8) (i := 2) C 2 dX5_ageOf_8 rfl rfl ?_
  refine ww_iadd (pc := 9) C dX5_ageOf_9 ?_
  obtain ⟨y1, e2, hf⟩ := oa_bind hf
  refine ww_iald (pc := 10) C 4 rfl e2 dX5_ageOf_10 ?_
  obtain rfl := Option.some.inj hf
  exact ww_iret (pc := 11) C rfl dX5_ageOf_11
theorem dX5_angersOf_0 : decode cX5_angersOf 0 = .ok (.aload_n 0, 1) := by decide +kernel
theorem dX5_angersOf_1 : decode cX5_angersOf 1 = .ok (.getfield 18, 3) := by decide +kernel
theorem dX5_angersOf_4 : decode cX5_angersOf 4 = .ok (.iload_n 1, 1) := by decide +kernel
theorem dX5_angersOf_5 : decode cX5_angersOf 5 = .ok (.iaload, 1) := by decide +kernel
theorem dX5_angersOf_6 : decode cX5_angersOf 6 = .ok (.invokestatic 78, 3) := by decide +kernel
theorem dX5_angersOf_9 : decode cX5_angersOf 9 = .ok (.ireturn, 1) := by decide +kernel
abbrev rm_X5_angersOf : Room := { frames := 1, cells := 0, slots := 0, locals := 20 }
theorem m_X5_angersOf (l : Launch) (O : oa_O) (h : Nat → Nat) (V : oa_I2) (x1 : Int32) (res : Int32) (hf : f_X5_angersOf V x1 = some res) : oa_M l yX5_angersOf cX5_angersOf 2 (some .int) rm_X5_angersOf O [.ref (h 0), .int x1] (wd_V O h V) (some (.int res)) (fun W1 => W1 = wd_V O h V) := by
  refine oa_Mof (by decide) (Nat.le_of_ble_eq_true rfl) (fun G A hl C => ?_)
  subst hl
  have C : oa_C G cX5_angersOf 2 RX5 (some .int) rm_X5_angersOf O A := C
  have hf : f_X5_angersOf V x1 = some res := hf
  delta f_X5_angersOf at hf
  show ww G 2 O A (oa_Q G O A (0, 0) (some (.int res)) (fun W1 => W1 = wd_V O h V)) (0, 0) 0 [(0, .ref (h 0)), (1, .int x1)] [] (wd_V O h V)
  refine ww_aload_n (pc := 0) (i := 0) C 0 dX5_angersOf_0 rfl rfl ?_
  refine ww_get (pc := 1) C fl_X5_18 0 rfl rfl dX5_angersOf_1 ?_
  refine ww_iload_n (pc := 4) (i := 1) C 1 dX5_angersOf_4 rfl rfl ?_
  obtain ⟨y1, e2, hf⟩ := oa_bind hf
  refine ww_iald (pc := 5) C 3 rfl e2 dX5_angersOf_5 ?_
  obtain ⟨y3, e4, hf⟩ := oa_bind hf
  refine ww_callS (pc := 6) (As := [.int y1]) (rest := []) (wd := []) (ws' := wd_V O h V) (rv := (some (.int y3))) C hY_J6_bitCount_0f7a4 hS_J6_bitCount_0f7a4 lk_X5_78 (m_J6_bitCount_0f7a4 _ O  y1 _ e4) [] rfl rfl rfl (oa_putS _ _ _ rfl) (fun _ h => h) ⟨rfl, rfl⟩ ⟨Nat.zero_le _, Nat.zero_le _⟩ ⟨Nat.le_of_ble_eq_true rfl, Nat.le_of_ble_eq_true rfl⟩ rfl (Nat.le_of_ble_eq_true rfl) rfl rfl dX5_angersOf_6 ?_
  obtain rfl := Option.some.inj hf
  exact ww_iret (pc := 9) C rfl dX5_angersOf_9
theorem dX6_within_0 : decode cX6_within 0 = .ok (.iload_n 0, 1) := by decide +kernel
theorem dX6_within_1 : decode cX6_within 1 = .ok (.iload_n 1, 1) := by decide +kernel
theorem dX6_within_2 : decode cX6_within 2 = .ok (.if_icmp .lt 12, 3) := by decide +kernel
theorem dX6_within_5 : decode cX6_within 5 = .ok (.iload_n 0, 1) := by decide +kernel
theorem dX6_within_6 : decode cX6_within 6 = .ok (.iload_n 2, 1) := by decide +kernel
theorem dX6_within_7 : decode cX6_within 7 = .ok (.if_icmp .gt 7, 3) := by decide +kernel
theorem dX6_within_10 : decode cX6_within 10 = .ok (.iconst 1, 1) := by decide +kernel
theorem dX6_within_11 : decode cX6_within 11 = .ok (.goto 4, 3) := by decide +kernel
theorem dX6_within_14 : decode cX6_within 14 = .ok (.iconst 0, 1) := by decide +kernel
theorem dX6_within_15 : decode cX6_within 15 = .ok (.ireturn, 1) := by decide +kernel
abbrev rm_X6_within : Room := { frames := 0, cells := 0, slots := 0, locals := 0 }
theorem m_X6_within (l : Launch) (O : oa_O)   (x0 : Int32) (x1 : Int32) (x2 : Int32) (res : Int32) (hf : f_X6_within x0 x1 x2 = some res) : oa_M l yX6_within cX6_within 3 (some .boolean) rm_X6_within O [.int x0, .int x1, .int x2] ([]) (some (.int res)) (fun W1 => W1 = []) := by
  refine oa_Mof (by decide) (Nat.le_of_ble_eq_true rfl) (fun G A hl C => ?_)
  subst hl
  have C : oa_C G cX6_within 3 RX6 (some .boolean) rm_X6_within O A := C
  have hf : f_X6_within x0 x1 x2 = some res := hf
  delta f_X6_within at hf
  show ww G 3 O A (oa_Q G O A (0, 0) (some (.int res)) (fun W1 => W1 = [])) (0, 0) 0 [(0, .int x0), (1, .int x1), (2, .int x2)] [] ([])
  refine ww_iload_n (pc := 0) (i := 0) C 0 dX6_within_0 rfl rfl ?_
  refine ww_iload_n (pc := 1) (i := 1) C 1 dX6_within_1 rfl rfl ?_
  refine ww_icmp_lt (pc := 2) (tgt := 14) C dX6_within_2 (by decide) (fun c1 => ?_) (fun c1 => ?_)
  · have hf := oa_ifp c1 hf
    refine ww_iconst (pc := 14) C dX6_within_14 kc_0 ?_
    obtain rfl := Option.some.inj hf
    exact ww_zret (pc := 15) C kz_0 rfl dX6_within_15
  · have hf := oa_ifn c1 hf
    refine ww_iload_n (pc := 5) (i := 0) C 0 dX6_within_5 rfl rfl ?_
    refine ww_iload_n (pc := 6) (i := 2) C 2 dX6_within_6 rfl rfl ?_
    refine ww_icmp_gt (pc := 7) (tgt := 14) C dX6_within_7 (by decide) (fun c2 => ?_) (fun c2 => ?_)
    · have hf := oa_ifp c2 hf
      refine ww_iconst (pc := 14) C dX6_within_14 kc_0 ?_
      obtain rfl := Option.some.inj hf
      exact ww_zret (pc := 15) C kz_0 rfl dX6_within_15
    · have hf := oa_ifn c2 hf
      refine ww_iconst (pc := 10) C dX6_within_10 kc_1 ?_
      refine ww_goto (pc := 11) (tgt := 15) C dX6_within_11 (by decide) ?_
      obtain rfl := Option.some.inj hf
      exact ww_zret (pc := 15) C kz_1 rfl dX6_within_15
theorem dX5_putTrait_0 : decode cX5_putTrait 0 = .ok (.aload_n 0, 1) := by decide +kernel
theorem dX5_putTrait_1 : decode cX5_putTrait 1 = .ok (.getfield 15, 3) := by decide +kernel
theorem dX5_putTrait_4 : decode cX5_putTrait 4 = .ok (.iload_n 1, 1) := by decide +kernel
theorem dX5_putTrait_5 : decode cX5_putTrait 5 = .ok (.bipush 6, 2) := by decide +kernel
theorem dX5_putTrait_7 : decode cX5_putTrait 7 = .ok (.imul, 1) := by decide +kernel
theorem dX5_putTrait_8 : decode cX5_putTrait 8 = .ok (.iload_n 2, 1) := by decide +kernel
theorem dX5_putTrait_9 : decode cX5_putTrait 9 = .ok (.iadd, 1) := by decide +kernel
theorem dX5_putTrait_10 : decode cX5_putTrait 10 = .ok (.iload_n 3, 1) := by decide +kernel
theorem dX5_putTrait_11 : decode cX5_putTrait 11 = .ok (.iastore, 1) := by decide +kernel
theorem dX5_putTrait_12 : decode cX5_putTrait 12 = .ok (.return_, 1) := by decide +kernel
abbrev rm_X5_putTrait : Room := { frames := 0, cells := 0, slots := 0, locals := 0 }
theorem m_X5_putTrait (l : Launch) (O : oa_O) (h : Nat → Nat) (V : oa_I2) (x1 : Int32) (x2 : Int32) (x3 : Int32) (res : oa_I2) (hf : f_X5_putTrait V x1 x2 x3 = some res) : oa_M l yX5_putTrait cX5_putTrait 4 none rm_X5_putTrait O [.ref (h 0), .int x1, .int x2, .int x3] (wd_V O h V) none (fun W1 => W1 = wd_V O h res) := by
  refine oa_Mof (by decide) (Nat.le_of_ble_eq_true rfl) (fun G A hl C => ?_)
  subst hl
  have C : oa_C G cX5_putTrait 4 RX5 none rm_X5_putTrait O A := C
  have hf : f_X5_putTrait V x1 x2 x3 = some res := hf
  delta f_X5_putTrait at hf
  show ww G 4 O A (oa_Q G O A (0, 0) none (fun W1 => W1 = wd_V O h res)) (0, 0) 0 [(0, .ref (h 0)), (1, .int x1), (2, .int x2), (3, .int x3)] [] (wd_V O h V)
  refine ww_aload_n (pc := 0) (i := 0) C 0 dX5_putTrait_0 rfl rfl ?_
  refine ww_get (pc := 1) C fl_X5_15 0 rfl rfl dX5_putTrait_1 ?_
  refine ww_iload_n (pc := 4) (i := 1) C 1 dX5_putTrait_4 rfl rfl ?_
  refine ww_bipush (pc := 5) C dX5_putTrait_5 kb_6 ?_
  refine ww_imul (pc := 7) C dX5_putTrait_7 ?_
  refine ww_iload_n (pc := 8) (i := 2) C 2 dX5_putTrait_8 rfl rfl ?_
  refine ww_iadd (pc := 9) C dX5_putTrait_9 ?_
  refine ww_iload_n (pc := 10) (i := 3) C 3 dX5_putTrait_10 rfl rfl ?_
  obtain ⟨g1, e2, hf⟩ := oa_bind hf
  obtain ⟨V3, e4, hf⟩ := oa_letE hf
  refine ww_iast (pc := 11) C (fun Z => wd_V O h Z) 2 rfl e2 e4 rfl dX5_putTrait_11 ?_
  obtain rfl := Option.some.inj hf
  exact ww_vret (pc := 12) C rfl dX5_putTrait_12
theorem dX5_start_0 : decode cX5_start 0 = .ok (.aload_n 0, 1) := by decide +kernel
theorem dX5_start_1 : decode cX5_start 1 = .ok (.getfield 18, 3) := by decide +kernel
theorem dX5_start_4 : decode cX5_start 4 = .ok (.iload_n 1, 1) := by decide +kernel
theorem dX5_start_5 : decode cX5_start 5 = .ok (.dup2, 1) := by decide +kernel
theorem dX5_start_6 : decode cX5_start 6 = .ok (.iaload, 1) := by decide +kernel
theorem dX5_start_7 : decode cX5_start 7 = .ok (.iconst 1, 1) := by decide +kernel
theorem dX5_start_8 : decode cX5_start 8 = .ok (.iload_n 2, 1) := by decide +kernel
theorem dX5_start_9 : decode cX5_start 9 = .ok (.ishl, 1) := by decide +kernel
theorem dX5_start_10 : decode cX5_start 10 = .ok (.ior, 1) := by decide +kernel
theorem dX5_start_11 : decode cX5_start 11 = .ok (.iastore, 1) := by decide +kernel
theorem dX5_start_12 : decode cX5_start 12 = .ok (.iload_n 2, 1) := by decide +kernel
theorem dX5_start_13 : decode cX5_start 13 = .ok (.bipush 6, 2) := by decide +kernel
theorem dX5_start_15 : decode cX5_start 15 = .ok (.if_icmp .eq 15, 3) := by decide +kernel
theorem dX5_start_18 : decode cX5_start 18 = .ok (.aload_n 0, 1) := by decide +kernel
theorem dX5_start_19 : decode cX5_start 19 = .ok (.getfield 21, 3) := by decide +kernel
theorem dX5_start_22 : decode cX5_start 22 = .ok (.iload_n 1, 1) := by decide +kernel
theorem dX5_start_23 : decode cX5_start 23 = .ok (.bipush 6, 2) := by decide +kernel
theorem dX5_start_25 : decode cX5_start 25 = .ok (.imul, 1) := by decide +kernel
theorem dX5_start_26 : decode cX5_start 26 = .ok (.iload_n 2, 1) := by decide +kernel
theorem dX5_start_27 : decode cX5_start 27 = .ok (.iadd, 1) := by decide +kernel
theorem dX5_start_28 : decode cX5_start 28 = .ok (.iconst 0, 1) := by decide +kernel
theorem dX5_start_29 : decode cX5_start 29 = .ok (.iastore, 1) := by decide +kernel
theorem dX5_start_30 : decode cX5_start 30 = .ok (.return_, 1) := by decide +kernel
abbrev rm_X5_start : Room := { frames := 0, cells := 0, slots := 0, locals := 0 }
theorem m_X5_start (l : Launch) (O : oa_O) (h : Nat → Nat) (V : oa_I2) (x1 : Int32) (x2 : Int32) (res : oa_I2) (hf : f_X5_start V x1 x2 = some res) : oa_M l yX5_start cX5_start 3 none rm_X5_start O [.ref (h 0), .int x1, .int x2] (wd_V O h V) none (fun W1 => W1 = wd_V O h res) := by
  refine oa_Mof (by decide) (Nat.le_of_ble_eq_true rfl) (fun G A hl C => ?_)
  subst hl
  have C : oa_C G cX5_start 3 RX5 none rm_X5_start O A := C
  have hf : f_X5_start V x1 x2 = some res := hf
  delta f_X5_start at hf
  show ww G 3 O A (oa_Q G O A (0, 0) none (fun W1 => W1 = wd_V O h res)) (0, 0) 0 [(0, .ref (h 0)), (1, .int x1), (2, .int x2)] [] (wd_V O h V)
  refine ww_aload_n (pc := 0) (i := 0) C 0 dX5_start_0 rfl rfl ?_
  refine ww_get (pc := 1) C fl_X5_18 0 rfl rfl dX5_start_1 ?_
  refine ww_iload_n (pc := 4) (i := 1) C 1 dX5_start_4 rfl rfl ?_
  refine ww_dup2 (pc := 5) C dX5_start_5 rfl rfl ?_
  obtain ⟨y1, e2, hf⟩ := oa_bind hf
  refine ww_iald (pc := 6) C 3 rfl e2 dX5_start_6 ?_
  refine ww_iconst (pc := 7) C dX5_start_7 kc_1 ?_
  refine ww_iload_n (pc := 8) (i := 2) C 2 dX5_start_8 rfl rfl ?_
  refine ww_ishl (pc := 9) C dX5_start_9 ?_
  refine ww_ior (pc := 10) C dX5_start_10 ?_
  obtain ⟨g3, e4, hf⟩ := oa_bind hf
  obtain ⟨V5, e6, hf⟩ := oa_letE hf
  refine ww_iast (pc := 11) C (fun Z => wd_V O h Z) 3 rfl e4 e6 rfl dX5_start_11 ?_
  refine ww_iload_n (pc := 12) (i := 2) C 2 dX5_start_12 rfl rfl ?_
  refine ww_bipush (pc := 13) C dX5_start_13 kb_6 ?_
  refine ww_icmp_eq (pc := 15) (tgt := 30) C dX5_start_15 (by decide) (fun c7 => ?_) (fun c7 => ?_)
  · have hf := oa_ifp c7 hf
    obtain rfl := Option.some.inj hf
    exact ww_vret (pc := 30) C rfl dX5_start_30
  · have hf := oa_ifn c7 hf
    refine ww_aload_n (pc := 18) (i := 0) C 0 dX5_start_18 rfl rfl ?_
    refine ww_get (pc := 19) C fl_X5_21 0 rfl rfl dX5_start_19 ?_
    refine ww_iload_n (pc := 22) (i := 1) C 1 dX5_start_22 rfl rfl ?_
    refine ww_bipush (pc := 23) C dX5_start_23 kb_6 ?_
    refine ww_imul (pc := 25) C dX5_start_25 ?_
    refine ww_iload_n (pc := 26) (i := 2) C 2 dX5_start_26 rfl rfl ?_
    refine ww_iadd (pc := 27) C dX5_start_27 ?_
    refine ww_iconst (pc := 28) C dX5_start_28 kc_0 ?_
    obtain ⟨g8, e9, hf⟩ := oa_bind hf
    obtain ⟨V10, e11, hf⟩ := oa_letE hf
    refine ww_iast (pc := 29) C (fun Z => wd_V O h Z) 4 rfl e9 e11 rfl dX5_start_29 ?_
    obtain rfl := Option.some.inj hf
    exact ww_vret (pc := 30) C rfl dX5_start_30
theorem dX5_clear_0 : decode cX5_clear 0 = .ok (.getstatic 30, 3) := by decide +kernel
theorem dX5_clear_3 : decode cX5_clear 3 = .ok (.iconst 0, 1) := by decide +kernel
theorem dX5_clear_4 : decode cX5_clear 4 = .ok (.aload_n 0, 1) := by decide +kernel
theorem dX5_clear_5 : decode cX5_clear 5 = .ok (.getfield 9, 3) := by decide +kernel
theorem dX5_clear_8 : decode cX5_clear 8 = .ok (.iconst 0, 1) := by decide +kernel
theorem dX5_clear_9 : decode cX5_clear 9 = .ok (.iconst 3, 1) := by decide +kernel
theorem dX5_clear_10 : decode cX5_clear 10 = .ok (.invokestatic 33, 3) := by decide +kernel
theorem dX5_clear_13 : decode cX5_clear 13 = .ok (.aload_n 0, 1) := by decide +kernel
theorem dX5_clear_14 : decode cX5_clear 14 = .ok (.getfield 15, 3) := by decide +kernel
theorem dX5_clear_17 : decode cX5_clear 17 = .ok (.iconst 0, 1) := by decide +kernel
theorem dX5_clear_18 : decode cX5_clear 18 = .ok (.invokestatic 39, 3) := by decide +kernel
theorem dX5_clear_21 : decode cX5_clear 21 = .ok (.iconst 0, 1) := by decide +kernel
theorem dX5_clear_22 : decode cX5_clear 22 = .ok (.istore_n 1, 1) := by decide +kernel
theorem dX5_clear_23 : decode cX5_clear 23 = .ok (.iload_n 1, 1) := by decide +kernel
theorem dX5_clear_24 : decode cX5_clear 24 = .ok (.bipush 6, 2) := by decide +kernel
theorem dX5_clear_26 : decode cX5_clear 26 = .ok (.if_icmp .ge 18, 3) := by decide +kernel
theorem dX5_clear_29 : decode cX5_clear 29 = .ok (.aload_n 0, 1) := by decide +kernel
theorem dX5_clear_30 : decode cX5_clear 30 = .ok (.bipush 7, 2) := by decide +kernel
theorem dX5_clear_32 : decode cX5_clear 32 = .ok (.iload_n 1, 1) := by decide +kernel
theorem dX5_clear_33 : decode cX5_clear 33 = .ok (.bipush (-4), 2) := by decide +kernel
theorem dX5_clear_35 : decode cX5_clear 35 = .ok (.invokevirtual 45, 3) := by decide +kernel
theorem dX5_clear_38 : decode cX5_clear 38 = .ok (.iinc 1 1, 3) := by decide +kernel
theorem dX5_clear_41 : decode cX5_clear 41 = .ok (.goto (-18), 3) := by decide +kernel
theorem dX5_clear_44 : decode cX5_clear 44 = .ok (.aload_n 0, 1) := by decide +kernel
theorem dX5_clear_45 : decode cX5_clear 45 = .ok (.getfield 18, 3) := by decide +kernel
theorem dX5_clear_48 : decode cX5_clear 48 = .ok (.iconst 0, 1) := by decide +kernel
theorem dX5_clear_49 : decode cX5_clear 49 = .ok (.invokestatic 39, 3) := by decide +kernel
theorem dX5_clear_52 : decode cX5_clear 52 = .ok (.aload_n 0, 1) := by decide +kernel
theorem dX5_clear_53 : decode cX5_clear 53 = .ok (.getfield 21, 3) := by decide +kernel
theorem dX5_clear_56 : decode cX5_clear 56 = .ok (.iconst 0, 1) := by decide +kernel
theorem dX5_clear_57 : decode cX5_clear 57 = .ok (.invokestatic 39, 3) := by decide +kernel
theorem dX5_clear_60 : decode cX5_clear 60 = .ok (.aload_n 0, 1) := by decide +kernel
theorem dX5_clear_61 : decode cX5_clear 61 = .ok (.getfield 24, 3) := by decide +kernel
theorem dX5_clear_64 : decode cX5_clear 64 = .ok (.iconst 0, 1) := by decide +kernel
theorem dX5_clear_65 : decode cX5_clear 65 = .ok (.invokestatic 39, 3) := by decide +kernel
theorem dX5_clear_68 : decode cX5_clear 68 = .ok (.aload_n 0, 1) := by decide +kernel
theorem dX5_clear_69 : decode cX5_clear 69 = .ok (.iconst 0, 1) := by decide +kernel
theorem dX5_clear_70 : decode cX5_clear 70 = .ok (.putfield 49, 3) := by decide +kernel
theorem dX5_clear_73 : decode cX5_clear 73 = .ok (.aload_n 0, 1) := by decide +kernel
theorem dX5_clear_74 : decode cX5_clear 74 = .ok (.iconst 0, 1) := by decide +kernel
theorem dX5_clear_75 : decode cX5_clear 75 = .ok (.putfield 53, 3) := by decide +kernel
theorem dX5_clear_78 : decode cX5_clear 78 = .ok (.aload_n 0, 1) := by decide +kernel
theorem dX5_clear_79 : decode cX5_clear 79 = .ok (.iconst 0, 1) := by decide +kernel
theorem dX5_clear_80 : decode cX5_clear 80 = .ok (.putfield 56, 3) := by decide +kernel
theorem dX5_clear_83 : decode cX5_clear 83 = .ok (.aload_n 0, 1) := by decide +kernel
theorem dX5_clear_84 : decode cX5_clear 84 = .ok (.iconst 0, 1) := by decide +kernel
theorem dX5_clear_85 : decode cX5_clear 85 = .ok (.putfield 59, 3) := by decide +kernel
theorem dX5_clear_88 : decode cX5_clear 88 = .ok (.return_, 1) := by decide +kernel
abbrev rm_X5_clear : Room := { frames := 1, cells := 0, slots := 0, locals := 24 }
theorem t_b_X5_clear_23 {G : oa_G} {O : oa_O} {A : Nat → Prop} {h : Nat → Nat} {res : oa_I2} (C : oa_C G cX5_clear 2 RX5 none rm_X5_clear O A)     (k23 : oa_I2 → Int32 → Option (oa_I2))  (hk23 : ∀ (b_V : oa_I2) (b_x1 : Int32), k23 b_V b_x1 = some res → ww G 2 O A (oa_Q G O A (0, 0) none (fun W1 => W1 = wd_V O h res)) (0, 0) 23 [(0, .ref (h 0)), (1, .int b_x1)] [] (wd_V O h b_V)) (V : oa_I2) (x1 : Int32) (hf : b_X5_clear_23 k23 V x1 = some res) : ww G 2 O A (oa_Q G O A (0, 0) none (fun W1 => W1 = wd_V O h res)) (0, 0) 23 [(0, .ref (h 0)), (1, .int x1)] [] (wd_V O h V) := by
  delta b_X5_clear_23 at hf
  refine ww_iload_n (pc := 23) (i := 1) C 1 dX5_clear_23 rfl rfl ?_
  refine ww_bipush (pc := 24) C dX5_clear_24 kb_6 ?_
  refine ww_icmp_ge (pc := 26) (tgt := 44) C dX5_clear_26 (by decide) (fun c5 => ?_) (fun c5 => ?_)
  · have hf := oa_ifp c5 hf
    refine ww_aload_n (pc := 44) (i := 0) C 0 dX5_clear_44 rfl rfl ?_
    refine ww_get (pc := 45) C fl_X5_18 0 rfl rfl dX5_clear_45 ?_
    refine ww_iconst (pc := 48) C dX5_clear_48 kc_0 ?_
    obtain ⟨V6, e7, hf⟩ := oa_letE hf
    refine ww_fill (pc := 49) (rest := []) C lk_X5_39 (fun Z => wd_V O h Z) 3 rfl e7 rfl (by decide) ⟨Nat.le_of_ble_eq_true rfl, Nat.le_of_ble_eq_true rfl⟩ ⟨Nat.zero_le _, Nat.zero_le _⟩ (Nat.le_of_ble_eq_true rfl) dX5_clear_49 ?_
    refine ww_aload_n (pc := 52) (i := 0) C 0 dX5_clear_52 rfl rfl ?_
    refine ww_get (pc := 53) C fl_X5_21 0 rfl rfl dX5_clear_53 ?_
    refine ww_iconst (pc := 56) C dX5_clear_56 kc_0 ?_
    obtain ⟨V8, e9, hf⟩ := oa_letE hf
    refine ww_fill (pc := 57) (rest := []) C lk_X5_39 (fun Z => wd_V O h Z) 4 rfl e9 rfl (by decide) ⟨Nat.le_of_ble_eq_true rfl, Nat.le_of_ble_eq_true rfl⟩ ⟨Nat.zero_le _, Nat.zero_le _⟩ (Nat.le_of_ble_eq_true rfl) dX5_clear_57 ?_
    refine ww_aload_n (pc := 60) (i := 0) C 0 dX5_clear_60 rfl rfl ?_
    refine ww_get (pc := 61) C fl_X5_24 0 rfl rfl dX5_clear_61 ?_
    refine ww_iconst (pc := 64) C dX5_clear_64 kc_0 ?_
    obtain ⟨V10, e11, hf⟩ := oa_letE hf
    refine ww_fill (pc := 65) (rest := []) C lk_X5_39 (fun Z => wd_V O h Z) 5 rfl e11 rfl (by decide) ⟨Nat.le_of_ble_eq_true rfl, Nat.le_of_ble_eq_true rfl⟩ ⟨Nat.zero_le _, Nat.zero_le _⟩ (Nat.le_of_ble_eq_true rfl) dX5_clear_65 ?_
    refine ww_aload_n (pc := 68) (i := 0) C 0 dX5_clear_68 rfl rfl ?_
    refine ww_iconst (pc := 69) C dX5_clear_69 kc_0 ?_
    obtain ⟨V12, e13, hf⟩ := oa_letE hf
    refine ww_put (pc := 70) C fl_X5_49 (fun Z => wd_V O h Z) 0 rfl rfl rfl (Nat.le_of_ble_eq_true rfl) e13 rfl dX5_clear_70 ?_
    refine ww_aload_n (pc := 73) (i := 0) C 0 dX5_clear_73 rfl rfl ?_
    refine ww_iconst (pc := 74) C dX5_clear_74 kc_0 ?_
    obtain ⟨V14, e15, hf⟩ := oa_letE hf
    refine ww_put (pc := 75) C fl_X5_53 (fun Z => wd_V O h Z) 0 rfl rfl rfl (Nat.le_of_ble_eq_true rfl) e15 rfl dX5_clear_75 ?_
    refine ww_aload_n (pc := 78) (i := 0) C 0 dX5_clear_78 rfl rfl ?_
    refine ww_iconst (pc := 79) C dX5_clear_79 kc_0 ?_
    obtain ⟨V16, e17, hf⟩ := oa_letE hf
    refine ww_put (pc := 80) C fl_X5_56 (fun Z => wd_V O h Z) 0 rfl rfl rfl (Nat.le_of_ble_eq_true rfl) e17 rfl dX5_clear_80 ?_
    refine ww_aload_n (pc := 83) (i := 0) C 0 dX5_clear_83 rfl rfl ?_
    refine ww_iconst (pc := 84) C dX5_clear_84 kc_0 ?_
    obtain ⟨V18, e19, hf⟩ := oa_letE hf
    refine ww_put (pc := 85) C fl_X5_59 (fun Z => wd_V O h Z) 0 rfl rfl rfl (Nat.le_of_ble_eq_true rfl) e19 rfl dX5_clear_85 ?_
    obtain rfl := Option.some.inj hf
    exact ww_vret (pc := 88) C rfl dX5_clear_88
  · have hf := oa_ifn c5 hf
    refine ww_aload_n (pc := 29) (i := 0) C 0 dX5_clear_29 rfl rfl ?_
    refine ww_bipush (pc := 30) C dX5_clear_30 kb_7 ?_
    refine ww_iload_n (pc := 32) (i := 1) C 1 dX5_clear_32 rfl rfl ?_
    refine ww_bipush (pc := 33) C dX5_clear_33 kb_m4 ?_
    obtain ⟨V20, e21, hf⟩ := oa_bind hf
    refine ww_callV (pc := 35) (As := [.int 7, .int x1, .int (-4)]) (rest := []) (wd := wd_V O h V20) (ws' := wd_V O h V20) (rv := none) C hY_X5_putTrait hV_X5_putTrait lk_X5_45 (m_X5_putTrait _ O h V 7 x1 (-4) _ e21) [0, 1, 2, 3, 4, 5] 0 rfl rfl rfl rfl rfl rfl (fun _ h => h) ⟨rfl, rfl⟩ ⟨Nat.zero_le _, Nat.zero_le _⟩ ⟨Nat.le_of_ble_eq_true rfl, Nat.le_of_ble_eq_true rfl⟩ rfl (Nat.le_of_ble_eq_true rfl) rfl rfl dX5_clear_35 ?_
    refine ww_iinc (pc := 38) (v := (x1 + 1)) (L' := [(0, .ref (h 0)), (1, .int (x1 + 1))]) C 1 [1, 0] dX5_clear_38 rfl (ki_1 _) (Nat.le_of_ble_eq_true rfl) rfl ?_
    refine ww_goto (pc := 41) (tgt := 23) C dX5_clear_41 (by decide) ?_
    exact hk23 V20 (x1 + 1) hf
theorem t_l_X5_clear_23 {G : oa_G} {O : oa_O} {A : Nat → Prop} {h : Nat → Nat} {res : oa_I2} (C : oa_C G cX5_clear 2 RX5 none rm_X5_clear O A)     : ∀ (n : Nat) (V : oa_I2) (x1 : Int32), l_X5_clear_23  n V x1 = some res → ww G 2 O A (oa_Q G O A (0, 0) none (fun W1 => W1 = wd_V O h res)) (0, 0) 23 [(0, .ref (h 0)), (1, .int x1)] [] (wd_V O h V) := by
  intro n
  induction n with
  | zero => intro V x1 hf; exact absurd (show (none : Option (oa_I2)) = some res from hf) (fun h => nomatch h)
  | succ n ih =>
    intro V x1 hf
    exact t_b_X5_clear_23 C   (fun V x1 => l_X5_clear_23  n V x1)  (fun V x1 h => ih V x1 h) V x1 hf
theorem m_X5_clear (l : Launch) (O : oa_O) (h : Nat → Nat) (V : oa_I2)  (res : oa_I2) (hf : f_X5_clear V = some res) : oa_M l yX5_clear cX5_clear 2 none rm_X5_clear O [.ref (h 0)] (wd_V O h V) none (fun W1 => W1 = wd_V O h res) := by
  refine oa_Mof (by decide) (Nat.le_of_ble_eq_true rfl) (fun G A hl C => ?_)
  subst hl
  have C : oa_C G cX5_clear 2 RX5 none rm_X5_clear O A := C
  have hf : f_X5_clear V = some res := hf
  delta f_X5_clear at hf
  show ww G 2 O A (oa_Q G O A (0, 0) none (fun W1 => W1 = wd_V O h res)) (0, 0) 0 [(0, .ref (h 0))] [] (wd_V O h V)
  refine ww_gsN (pc := 0) (k := 2) C (by decide) (by decide +kernel : Cond.fieldLinkNest RX5 30 "OneAnger" "RULE_FIRST" "[I" "OneAnger" ∈ oa_nest) dX5_clear_0 ?_
  refine ww_iconst (pc := 3) C dX5_clear_3 kc_0 ?_
  refine ww_aload_n (pc := 4) (i := 0) C 0 dX5_clear_4 rfl rfl ?_
  refine ww_get (pc := 5) C fl_X5_9 0 rfl rfl dX5_clear_5 ?_
  refine ww_iconst (pc := 8) C dX5_clear_8 kc_0 ?_
  refine ww_iconst (pc := 9) C dX5_clear_9 kc_3 ?_
  obtain ⟨V1, e2, hf⟩ := oa_letE hf
  refine ww_acpt (pc := 10) (k := 2) C lk_X5_33 (fun Z => wd_V O h Z) 1 (by decide) rfl 3 rfl ⟨rfl, rfl⟩ (by decide) e2 rfl (by decide) (by decide) dX5_clear_10 ?_
  refine ww_aload_n (pc := 13) (i := 0) C 0 dX5_clear_13 rfl rfl ?_
  refine ww_get (pc := 14) C fl_X5_15 0 rfl rfl dX5_clear_14 ?_
  refine ww_iconst (pc := 17) C dX5_clear_17 kc_0 ?_
  obtain ⟨V3, e4, hf⟩ := oa_letE hf
  refine ww_fill (pc := 18) (rest := []) C lk_X5_39 (fun Z => wd_V O h Z) 2 rfl e4 rfl (by decide) ⟨Nat.le_of_ble_eq_true rfl, Nat.le_of_ble_eq_true rfl⟩ ⟨Nat.zero_le _, Nat.zero_le _⟩ (Nat.le_of_ble_eq_true rfl) dX5_clear_18 ?_
  refine ww_iconst (pc := 21) C dX5_clear_21 kc_0 ?_
  refine ww_istore_n (pc := 22) (L' := [(0, .ref (h 0)), (1, .int 0)]) C [1, 0] dX5_clear_22 rfl (Nat.le_of_ble_eq_true rfl) rfl ?_
  exact t_l_X5_clear_23 C     oa_fu V3 0 hf
theorem dX5_able_0 : decode cX5_able 0 = .ok (.aload_n 0, 1) := by decide +kernel
theorem dX5_able_1 : decode cX5_able 1 = .ok (.invokevirtual 100, 3) := by decide +kernel
theorem dX5_able_4 : decode cX5_able 4 = .ok (.aload_n 0, 1) := by decide +kernel
theorem dX5_able_5 : decode cX5_able 5 = .ok (.iload_n 1, 1) := by decide +kernel
theorem dX5_able_6 : decode cX5_able 6 = .ok (.invokevirtual 104, 3) := by decide +kernel
theorem dX5_able_9 : decode cX5_able 9 = .ok (.iconst (-1), 1) := by decide +kernel
theorem dX5_able_10 : decode cX5_able 10 = .ok (.ixor, 1) := by decide +kernel
theorem dX5_able_11 : decode cX5_able 11 = .ok (.iand, 1) := by decide +kernel
theorem dX5_able_12 : decode cX5_able 12 = .ok (.iconst 1, 1) := by decide +kernel
theorem dX5_able_13 : decode cX5_able 13 = .ok (.iload_n 1, 1) := by decide +kernel
theorem dX5_able_14 : decode cX5_able 14 = .ok (.ishl, 1) := by decide +kernel
theorem dX5_able_15 : decode cX5_able 15 = .ok (.iconst (-1), 1) := by decide +kernel
theorem dX5_able_16 : decode cX5_able 16 = .ok (.ixor, 1) := by decide +kernel
theorem dX5_able_17 : decode cX5_able 17 = .ok (.iand, 1) := by decide +kernel
theorem dX5_able_18 : decode cX5_able 18 = .ok (.ireturn, 1) := by decide +kernel
abbrev rm_X5_able : Room := { frames := 2, cells := 0, slots := 0, locals := 45 }
theorem m_X5_able (l : Launch) (O : oa_O) (h : Nat → Nat) (V : oa_I2) (x1 : Int32) (res : Int32) (hf : f_X5_able V x1 = some res) : oa_M l yX5_able cX5_able 2 (some .int) rm_X5_able O [.ref (h 0), .int x1] (wd_V O h V) (some (.int res)) (fun W1 => W1 = wd_V O h V) := by
  refine oa_Mof (by decide) (Nat.le_of_ble_eq_true rfl) (fun G A hl C => ?_)
  subst hl
  have C : oa_C G cX5_able 2 RX5 (some .int) rm_X5_able O A := C
  have hf : f_X5_able V x1 = some res := hf
  delta f_X5_able at hf
  show ww G 2 O A (oa_Q G O A (0, 0) (some (.int res)) (fun W1 => W1 = wd_V O h V)) (0, 0) 0 [(0, .ref (h 0)), (1, .int x1)] [] (wd_V O h V)
  refine ww_aload_n (pc := 0) (i := 0) C 0 dX5_able_0 rfl rfl ?_
  obtain ⟨y1, e2, hf⟩ := oa_bind hf
  refine ww_callV (pc := 1) (As := []) (rest := []) (wd := wd_V O h V) (ws' := wd_V O h V) (rv := (some (.int y1))) C hY_X5_free hV_X5_free lk_X5_100 (m_X5_free _ O h V _ e2) [0, 1, 2, 3, 4, 5] 0 rfl rfl rfl rfl rfl (oa_putS _ _ _ rfl) (fun _ h => h) ⟨rfl, rfl⟩ ⟨Nat.zero_le _, Nat.zero_le _⟩ ⟨Nat.le_of_ble_eq_true rfl, Nat.le_of_ble_eq_true rfl⟩ rfl (Nat.le_of_ble_eq_true rfl) rfl rfl dX5_able_1 ?_
  refine ww_aload_n (pc := 4) (i := 0) C 0 dX5_able_4 rfl rfl ?_
  refine ww_iload_n (pc := 5) (i := 1) C 1 dX5_able_5 rfl rfl ?_
  obtain ⟨y4, e5, hf⟩ := oa_bind hf
  refine ww_callV (pc := 6) (As := [.int x1]) (rest := [.int y1]) (wd := wd_V O h V) (ws' := wd_V O h V) (rv := (some (.int y4))) C hY_X5_angryWith hV_X5_angryWith lk_X5_104 (m_X5_angryWith _ O h V x1 _ e5) [0, 1, 2, 3, 4, 5] 0 rfl rfl rfl rfl rfl (oa_putS _ _ _ rfl) (fun _ h => h) ⟨rfl, rfl⟩ ⟨Nat.zero_le _, Nat.zero_le _⟩ ⟨Nat.le_of_ble_eq_true rfl, Nat.le_of_ble_eq_true rfl⟩ rfl (Nat.le_of_ble_eq_true rfl) rfl rfl dX5_able_6 ?_
  refine ww_iconst (pc := 9) C dX5_able_9 kc_m1 ?_
  refine ww_ixor (pc := 10) C dX5_able_10 ?_
  refine ww_iand (pc := 11) C dX5_able_11 ?_
  refine ww_iconst (pc := 12) C dX5_able_12 kc_1 ?_
  refine ww_iload_n (pc := 13) (i := 1) C 1 dX5_able_13 rfl rfl ?_
  refine ww_ishl (pc := 14) C dX5_able_14 ?_
  refine ww_iconst (pc := 15) C dX5_able_15 kc_m1 ?_
  refine ww_ixor (pc := 16) C dX5_able_16 ?_
  refine ww_iand (pc := 17) C dX5_able_17 ?_
  obtain rfl := Option.some.inj hf
  exact ww_iret (pc := 18) C rfl dX5_able_18
theorem dX5_ableAsSeen_0 : decode cX5_ableAsSeen 0 = .ok (.aload_n 0, 1) := by decide +kernel
theorem dX5_ableAsSeen_1 : decode cX5_ableAsSeen 1 = .ok (.iload_n 1, 1) := by decide +kernel
theorem dX5_ableAsSeen_2 : decode cX5_ableAsSeen 2 = .ok (.invokevirtual 107, 3) := by decide +kernel
theorem dX5_ableAsSeen_5 : decode cX5_ableAsSeen 5 = .ok (.aload_n 0, 1) := by decide +kernel
theorem dX5_ableAsSeen_6 : decode cX5_ableAsSeen 6 = .ok (.iconst 3, 1) := by decide +kernel
theorem dX5_ableAsSeen_7 : decode cX5_ableAsSeen 7 = .ok (.invokevirtual 110, 3) := by decide +kernel
theorem dX5_ableAsSeen_10 : decode cX5_ableAsSeen 10 = .ok (.iconst (-1), 1) := by decide +kernel
theorem dX5_ableAsSeen_11 : decode cX5_ableAsSeen 11 = .ok (.ixor, 1) := by decide +kernel
theorem dX5_ableAsSeen_12 : decode cX5_ableAsSeen 12 = .ok (.iand, 1) := by decide +kernel
theorem dX5_ableAsSeen_13 : decode cX5_ableAsSeen 13 = .ok (.ireturn, 1) := by decide +kernel
abbrev rm_X5_ableAsSeen : Room := { frames := 3, cells := 0, slots := 0, locals := 66 }
theorem m_X5_ableAsSeen (l : Launch) (O : oa_O) (h : Nat → Nat) (V : oa_I2) (x1 : Int32) (res : Int32) (hf : f_X5_ableAsSeen V x1 = some res) : oa_M l yX5_ableAsSeen cX5_ableAsSeen 2 (some .int) rm_X5_ableAsSeen O [.ref (h 0), .int x1] (wd_V O h V) (some (.int res)) (fun W1 => W1 = wd_V O h V) := by
  refine oa_Mof (by decide) (Nat.le_of_ble_eq_true rfl) (fun G A hl C => ?_)
  subst hl
  have C : oa_C G cX5_ableAsSeen 2 RX5 (some .int) rm_X5_ableAsSeen O A := C
  have hf : f_X5_ableAsSeen V x1 = some res := hf
  delta f_X5_ableAsSeen at hf
  show ww G 2 O A (oa_Q G O A (0, 0) (some (.int res)) (fun W1 => W1 = wd_V O h V)) (0, 0) 0 [(0, .ref (h 0)), (1, .int x1)] [] (wd_V O h V)
  refine ww_aload_n (pc := 0) (i := 0) C 0 dX5_ableAsSeen_0 rfl rfl ?_
  refine ww_iload_n (pc := 1) (i := 1) C 1 dX5_ableAsSeen_1 rfl rfl ?_
  obtain ⟨y1, e2, hf⟩ := oa_bind hf
  refine ww_callV (pc := 2) (As := [.int x1]) (rest := []) (wd := wd_V O h V) (ws' := wd_V O h V) (rv := (some (.int y1))) C hY_X5_able hV_X5_able lk_X5_107 (m_X5_able _ O h V x1 _ e2) [0, 1, 2, 3, 4, 5] 0 rfl rfl rfl rfl rfl (oa_putS _ _ _ rfl) (fun _ h => h) ⟨rfl, rfl⟩ ⟨Nat.zero_le _, Nat.zero_le _⟩ ⟨Nat.le_of_ble_eq_true rfl, Nat.le_of_ble_eq_true rfl⟩ rfl (Nat.le_of_ble_eq_true rfl) rfl rfl dX5_ableAsSeen_2 ?_
  refine ww_aload_n (pc := 5) (i := 0) C 0 dX5_ableAsSeen_5 rfl rfl ?_
  refine ww_iconst (pc := 6) C dX5_ableAsSeen_6 kc_3 ?_
  obtain ⟨y4, e5, hf⟩ := oa_bind hf
  refine ww_callV (pc := 7) (As := [.int 3]) (rest := [.int y1]) (wd := wd_V O h V) (ws' := wd_V O h V) (rv := (some (.int y4))) C hY_X5_allOf hV_X5_allOf lk_X5_110 (m_X5_allOf _ O h V 3 _ e5) [0, 1, 2, 3, 4, 5] 0 rfl rfl rfl rfl rfl (oa_putS _ _ _ rfl) (fun _ h => h) ⟨rfl, rfl⟩ ⟨Nat.zero_le _, Nat.zero_le _⟩ ⟨Nat.le_of_ble_eq_true rfl, Nat.le_of_ble_eq_true rfl⟩ rfl (Nat.le_of_ble_eq_true rfl) rfl rfl dX5_ableAsSeen_7 ?_
  refine ww_iconst (pc := 10) C dX5_ableAsSeen_10 kc_m1 ?_
  refine ww_ixor (pc := 11) C dX5_ableAsSeen_11 ?_
  refine ww_iand (pc := 12) C dX5_ableAsSeen_12 ?_
  obtain rfl := Option.some.inj hf
  exact ww_iret (pc := 13) C rfl dX5_ableAsSeen_13
theorem dX5_allAngers_0 : decode cX5_allAngers 0 = .ok (.iconst 0, 1) := by decide +kernel
theorem dX5_allAngers_1 : decode cX5_allAngers 1 = .ok (.istore_n 1, 1) := by decide +kernel
theorem dX5_allAngers_2 : decode cX5_allAngers 2 = .ok (.iconst 0, 1) := by decide +kernel
theorem dX5_allAngers_3 : decode cX5_allAngers 3 = .ok (.istore_n 2, 1) := by decide +kernel
theorem dX5_allAngers_4 : decode cX5_allAngers 4 = .ok (.iload_n 2, 1) := by decide +kernel
theorem dX5_allAngers_5 : decode cX5_allAngers 5 = .ok (.aload_n 0, 1) := by decide +kernel
theorem dX5_allAngers_6 : decode cX5_allAngers 6 = .ok (.getfield 49, 3) := by decide +kernel
theorem dX5_allAngers_9 : decode cX5_allAngers 9 = .ok (.if_icmp .ge 17, 3) := by decide +kernel
theorem dX5_allAngers_12 : decode cX5_allAngers 12 = .ok (.iload_n 1, 1) := by decide +kernel
theorem dX5_allAngers_13 : decode cX5_allAngers 13 = .ok (.aload_n 0, 1) := by decide +kernel
theorem dX5_allAngers_14 : decode cX5_allAngers 14 = .ok (.iload_n 2, 1) := by decide +kernel
theorem dX5_allAngers_15 : decode cX5_allAngers 15 = .ok (.invokevirtual 84, 3) := by decide +kernel
theorem dX5_allAngers_18 : decode cX5_allAngers 18 = .ok (.iadd, 1) := by decide +kernel
theorem dX5_allAngers_19 : decode cX5_allAngers 19 = .ok (.istore_n 1, 1) := by decide +kernel
theorem dX5_allAngers_20 : decode cX5_allAngers 20 = .ok (.iinc 2 1, 3) := by decide +kernel
theorem dX5_allAngers_23 : decode cX5_allAngers 23 = .ok (.goto (-19), 3) := by decide +kernel
theorem dX5_allAngers_26 : decode cX5_allAngers 26 = .ok (.iload_n 1, 1) := by decide +kernel
theorem dX5_allAngers_27 : decode cX5_allAngers 27 = .ok (.ireturn, 1) := by decide +kernel
abbrev rm_X5_allAngers : Room := { frames := 2, cells := 0, slots := 0, locals := 41 }
theorem t_b_X5_allAngers_4 {G : oa_G} {O : oa_O} {A : Nat → Prop} {h : Nat → Nat} {res : Int32} (C : oa_C G cX5_allAngers 3 RX5 (some .int) rm_X5_allAngers O A) (V : oa_I2)    (k4 : Int32 → Int32 → Option (Int32))  (hk4 : ∀ (b_x1 : Int32) (b_x2 : Int32), k4 b_x1 b_x2 = some res → ww G 3 O A (oa_Q G O A (0, 0) (some (.int res)) (fun W1 => W1 = wd_V O h V)) (0, 0) 4 [(0, .ref (h 0)), (1, .int b_x1), (2, .int b_x2)] [] (wd_V O h V)) (x1 : Int32) (x2 : Int32) (hf : b_X5_allAngers_4 V k4 x1 x2 = some res) : ww G 3 O A (oa_Q G O A (0, 0) (some (.int res)) (fun W1 => W1 = wd_V O h V)) (0, 0) 4 [(0, .ref (h 0)), (1, .int x1), (2, .int x2)] [] (wd_V O h V) := by
  delta b_X5_allAngers_4 at hf
  refine ww_iload_n (pc := 4) (i := 2) C 2 dX5_allAngers_4 rfl rfl ?_
  refine ww_aload_n (pc := 5) (i := 0) C 0 dX5_allAngers_5 rfl rfl ?_
  refine ww_get (pc := 6) C fl_X5_49 0 rfl rfl dX5_allAngers_6 ?_
  refine ww_icmp_ge (pc := 9) (tgt := 26) C dX5_allAngers_9 (by decide) (fun c1 => ?_) (fun c1 => ?_)
  · have hf := oa_ifp c1 hf
    refine ww_iload_n (pc := 26) (i := 1) C 1 dX5_allAngers_26 rfl rfl ?_
    obtain rfl := Option.some.inj hf
    exact ww_iret (pc := 27) C rfl dX5_allAngers_27
  · have hf := oa_ifn c1 hf
    refine ww_iload_n (pc := 12) (i := 1) C 1 dX5_allAngers_12 rfl rfl ?_
    refine ww_aload_n (pc := 13) (i := 0) C 0 dX5_allAngers_13 rfl rfl ?_
    refine ww_iload_n (pc := 14) (i := 2) C 2 dX5_allAngers_14 rfl rfl ?_
    obtain ⟨y2, e3, hf⟩ := oa_bind hf
    refine ww_callV (pc := 15) (As := [.int x2]) (rest := [.int x1]) (wd := wd_V O h V) (ws' := wd_V O h V) (rv := (some (.int y2))) C hY_X5_angersOf hV_X5_angersOf lk_X5_84 (m_X5_angersOf _ O h V x2 _ e3) [0, 1, 2, 3, 4, 5] 0 rfl rfl rfl rfl rfl (oa_putS _ _ _ rfl) (fun _ h => h) ⟨rfl, rfl⟩ ⟨Nat.zero_le _, Nat.zero_le _⟩ ⟨Nat.le_of_ble_eq_true rfl, Nat.le_of_ble_eq_true rfl⟩ rfl (Nat.le_of_ble_eq_true rfl) rfl rfl dX5_allAngers_15 ?_
    refine ww_iadd (pc := 18) C dX5_allAngers_18 ?_
    obtain ⟨y5, e6, hf⟩ := oa_letE hf
    refine ww_topi C e6 ?_
    refine ww_istore_n (pc := 19) (L' := [(0, .ref (h 0)), (1, .int y5), (2, .int x2)]) C [1, 0, 2] dX5_allAngers_19 rfl (Nat.le_of_ble_eq_true rfl) rfl ?_
    refine ww_iinc (pc := 20) (v := (x2 + 1)) (L' := [(0, .ref (h 0)), (1, .int y5), (2, .int (x2 + 1))]) C 2 [1, 2, 0] dX5_allAngers_20 rfl (ki_1 _) (Nat.le_of_ble_eq_true rfl) rfl ?_
    refine ww_goto (pc := 23) (tgt := 4) C dX5_allAngers_23 (by decide) ?_
    exact hk4 y5 (x2 + 1) hf
theorem t_l_X5_allAngers_4 {G : oa_G} {O : oa_O} {A : Nat → Prop} {h : Nat → Nat} {res : Int32} (C : oa_C G cX5_allAngers 3 RX5 (some .int) rm_X5_allAngers O A) (V : oa_I2)    : ∀ (n : Nat) (x1 : Int32) (x2 : Int32), l_X5_allAngers_4 V n x1 x2 = some res → ww G 3 O A (oa_Q G O A (0, 0) (some (.int res)) (fun W1 => W1 = wd_V O h V)) (0, 0) 4 [(0, .ref (h 0)), (1, .int x1), (2, .int x2)] [] (wd_V O h V) := by
  intro n
  induction n with
  | zero => intro x1 x2 hf; exact absurd (show (none : Option (Int32)) = some res from hf) (fun h => nomatch h)
  | succ n ih =>
    intro x1 x2 hf
    exact t_b_X5_allAngers_4 C V  (fun x1 x2 => l_X5_allAngers_4 V n x1 x2)  (fun x1 x2 h => ih x1 x2 h) x1 x2 hf
theorem m_X5_allAngers (l : Launch) (O : oa_O) (h : Nat → Nat) (V : oa_I2)  (res : Int32) (hf : f_X5_allAngers V = some res) : oa_M l yX5_allAngers cX5_allAngers 3 (some .int) rm_X5_allAngers O [.ref (h 0)] (wd_V O h V) (some (.int res)) (fun W1 => W1 = wd_V O h V) := by
  refine oa_Mof (by decide) (Nat.le_of_ble_eq_true rfl) (fun G A hl C => ?_)
  subst hl
  have C : oa_C G cX5_allAngers 3 RX5 (some .int) rm_X5_allAngers O A := C
  have hf : f_X5_allAngers V = some res := hf
  delta f_X5_allAngers at hf
  show ww G 3 O A (oa_Q G O A (0, 0) (some (.int res)) (fun W1 => W1 = wd_V O h V)) (0, 0) 0 [(0, .ref (h 0))] [] (wd_V O h V)
  refine ww_iconst (pc := 0) C dX5_allAngers_0 kc_0 ?_
  refine ww_istore_n (pc := 1) (L' := [(0, .ref (h 0)), (1, .int 0)]) C [1, 0] dX5_allAngers_1 rfl (Nat.le_of_ble_eq_true rfl) rfl ?_
  refine ww_iconst (pc := 2) C dX5_allAngers_2 kc_0 ?_
  refine ww_istore_n (pc := 3) (L' := [(0, .ref (h 0)), (1, .int 0), (2, .int 0)]) C [1, 2, 0] dX5_allAngers_3 rfl (Nat.le_of_ble_eq_true rfl) rfl ?_
  exact t_l_X5_allAngers_4 C V    oa_fu 0 0 hf
theorem dX5_has_0 : decode cX5_has 0 = .ok (.iload_n 1, 1) := by decide +kernel
theorem dX5_has_1 : decode cX5_has 1 = .ok (.iconst 0, 1) := by decide +kernel
theorem dX5_has_2 : decode cX5_has 2 = .ok (.aload_n 0, 1) := by decide +kernel
theorem dX5_has_3 : decode cX5_has 3 = .ok (.getfield 49, 3) := by decide +kernel
theorem dX5_has_6 : decode cX5_has 6 = .ok (.iconst 1, 1) := by decide +kernel
theorem dX5_has_7 : decode cX5_has 7 = .ok (.isub, 1) := by decide +kernel
theorem dX5_has_8 : decode cX5_has 8 = .ok (.invokestatic 62, 3) := by decide +kernel
theorem dX5_has_11 : decode cX5_has 11 = .ok (.ireturn, 1) := by decide +kernel
abbrev rm_X5_has : Room := { frames := 1, cells := 0, slots := 0, locals := 22 }
theorem m_X5_has (l : Launch) (O : oa_O) (h : Nat → Nat) (V : oa_I2) (x1 : Int32) (res : Int32) (hf : f_X5_has V x1 = some res) : oa_M l yX5_has cX5_has 2 (some .boolean) rm_X5_has O [.ref (h 0), .int x1] (wd_V O h V) (some (.int res)) (fun W1 => W1 = wd_V O h V) := by
  refine oa_Mof (by decide) (Nat.le_of_ble_eq_true rfl) (fun G A hl C => ?_)
  subst hl
  have C : oa_C G cX5_has 2 RX5 (some .boolean) rm_X5_has O A := C
  have hf : f_X5_has V x1 = some res := hf
  delta f_X5_has at hf
  show ww G 2 O A (oa_Q G O A (0, 0) (some (.int res)) (fun W1 => W1 = wd_V O h V)) (0, 0) 0 [(0, .ref (h 0)), (1, .int x1)] [] (wd_V O h V)
  refine ww_iload_n (pc := 0) (i := 1) C 1 dX5_has_0 rfl rfl ?_
  refine ww_iconst (pc := 1) C dX5_has_1 kc_0 ?_
  refine ww_aload_n (pc := 2) (i := 0) C 0 dX5_has_2 rfl rfl ?_
  refine ww_get (pc := 3) C fl_X5_49 0 rfl rfl dX5_has_3 ?_
  refine ww_iconst (pc := 6) C dX5_has_6 kc_1 ?_
  refine ww_isub (pc := 7) C dX5_has_7 ?_
  obtain ⟨y1, e2, hf⟩ := oa_bind hf
  refine ww_callN (pc := 8) (ho := "OneAnger") (As := [.int x1, .int 0, .int ((V 5 0) - 1)]) (rest := []) (wd := []) (ws' := wd_V O h V) (rv := (some (.int y1))) C hY_X6_within hS_X6_within (by decide +kernel) (m_X6_within _ O  x1 0 ((V 5 0) - 1) _ e2) [] rfl rfl rfl (oa_putS _ _ _ rfl) (fun _ h => h) ⟨rfl, rfl⟩ ⟨Nat.zero_le _, Nat.zero_le _⟩ ⟨Nat.le_of_ble_eq_true rfl, Nat.le_of_ble_eq_true rfl⟩ rfl (Nat.le_of_ble_eq_true rfl) rfl rfl dX5_has_8 ?_
  obtain ⟨z4, e5, hf⟩ := oa_bind hf
  have e5 := oa_zc_some e5
  refine ww_topi C e5.1 ?_
  obtain rfl := Option.some.inj hf
  exact ww_zret (pc := 11) C e5.2 rfl dX5_has_11
theorem dX5_hasTwo_0 : decode cX5_hasTwo 0 = .ok (.aload_n 0, 1) := by decide +kernel
theorem dX5_hasTwo_1 : decode cX5_hasTwo 1 = .ok (.iload_n 1, 1) := by decide +kernel
theorem dX5_hasTwo_2 : decode cX5_hasTwo 2 = .ok (.invokevirtual 66, 3) := by decide +kernel
theorem dX5_hasTwo_5 : decode cX5_hasTwo 5 = .ok (.ifCond .eq 20, 3) := by decide +kernel
theorem dX5_hasTwo_8 : decode cX5_hasTwo 8 = .ok (.aload_n 0, 1) := by decide +kernel
theorem dX5_hasTwo_9 : decode cX5_hasTwo 9 = .ok (.iload_n 2, 1) := by decide +kernel
theorem dX5_hasTwo_10 : decode cX5_hasTwo 10 = .ok (.invokevirtual 66, 3) := by decide +kernel
theorem dX5_hasTwo_13 : decode cX5_hasTwo 13 = .ok (.ifCond .eq 12, 3) := by decide +kernel
theorem dX5_hasTwo_16 : decode cX5_hasTwo 16 = .ok (.iload_n 1, 1) := by decide +kernel
theorem dX5_hasTwo_17 : decode cX5_hasTwo 17 = .ok (.iload_n 2, 1) := by decide +kernel
theorem dX5_hasTwo_18 : decode cX5_hasTwo 18 = .ok (.if_icmp .eq 7, 3) := by decide +kernel
theorem dX5_hasTwo_21 : decode cX5_hasTwo 21 = .ok (.iconst 1, 1) := by decide +kernel
theorem dX5_hasTwo_22 : decode cX5_hasTwo 22 = .ok (.goto 4, 3) := by decide +kernel
theorem dX5_hasTwo_25 : decode cX5_hasTwo 25 = .ok (.iconst 0, 1) := by decide +kernel
theorem dX5_hasTwo_26 : decode cX5_hasTwo 26 = .ok (.ireturn, 1) := by decide +kernel
abbrev rm_X5_hasTwo : Room := { frames := 2, cells := 0, slots := 0, locals := 43 }
theorem m_X5_hasTwo (l : Launch) (O : oa_O) (h : Nat → Nat) (V : oa_I2) (x1 : Int32) (x2 : Int32) (res : Int32) (hf : f_X5_hasTwo V x1 x2 = some res) : oa_M l yX5_hasTwo cX5_hasTwo 3 (some .boolean) rm_X5_hasTwo O [.ref (h 0), .int x1, .int x2] (wd_V O h V) (some (.int res)) (fun W1 => W1 = wd_V O h V) := by
  refine oa_Mof (by decide) (Nat.le_of_ble_eq_true rfl) (fun G A hl C => ?_)
  subst hl
  have C : oa_C G cX5_hasTwo 3 RX5 (some .boolean) rm_X5_hasTwo O A := C
  have hf : f_X5_hasTwo V x1 x2 = some res := hf
  delta f_X5_hasTwo at hf
  show ww G 3 O A (oa_Q G O A (0, 0) (some (.int res)) (fun W1 => W1 = wd_V O h V)) (0, 0) 0 [(0, .ref (h 0)), (1, .int x1), (2, .int x2)] [] (wd_V O h V)
  refine ww_aload_n (pc := 0) (i := 0) C 0 dX5_hasTwo_0 rfl rfl ?_
  refine ww_iload_n (pc := 1) (i := 1) C 1 dX5_hasTwo_1 rfl rfl ?_
  obtain ⟨y1, e2, hf⟩ := oa_bind hf
  refine ww_callV (pc := 2) (As := [.int x1]) (rest := []) (wd := wd_V O h V) (ws' := wd_V O h V) (rv := (some (.int y1))) C hY_X5_has hV_X5_has lk_X5_66 (m_X5_has _ O h V x1 _ e2) [0, 1, 2, 3, 4, 5] 0 rfl rfl rfl rfl rfl (oa_putS _ _ _ rfl) (fun _ h => h) ⟨rfl, rfl⟩ ⟨Nat.zero_le _, Nat.zero_le _⟩ ⟨Nat.le_of_ble_eq_true rfl, Nat.le_of_ble_eq_true rfl⟩ rfl (Nat.le_of_ble_eq_true rfl) rfl rfl dX5_hasTwo_2 ?_
  refine ww_if_eq (pc := 5) (tgt := 25) C dX5_hasTwo_5 (by decide) (fun c4 => ?_) (fun c4 => ?_)
  · have hf := oa_ifp c4 hf
    refine ww_iconst (pc := 25) C dX5_hasTwo_25 kc_0 ?_
    obtain rfl := Option.some.inj hf
    exact ww_zret (pc := 26) C kz_0 rfl dX5_hasTwo_26
  · have hf := oa_ifn c4 hf
    refine ww_aload_n (pc := 8) (i := 0) C 0 dX5_hasTwo_8 rfl rfl ?_
    refine ww_iload_n (pc := 9) (i := 2) C 2 dX5_hasTwo_9 rfl rfl ?_
    obtain ⟨y5, e6, hf⟩ := oa_bind hf
    refine ww_callV (pc := 10) (As := [.int x2]) (rest := []) (wd := wd_V O h V) (ws' := wd_V O h V) (rv := (some (.int y5))) C hY_X5_has hV_X5_has lk_X5_66 (m_X5_has _ O h V x2 _ e6) [0, 1, 2, 3, 4, 5] 0 rfl rfl rfl rfl rfl (oa_putS _ _ _ rfl) (fun _ h => h) ⟨rfl, rfl⟩ ⟨Nat.zero_le _, Nat.zero_le _⟩ ⟨Nat.le_of_ble_eq_true rfl, Nat.le_of_ble_eq_true rfl⟩ rfl (Nat.le_of_ble_eq_true rfl) rfl rfl dX5_hasTwo_10 ?_
    refine ww_if_eq (pc := 13) (tgt := 25) C dX5_hasTwo_13 (by decide) (fun c8 => ?_) (fun c8 => ?_)
    · have hf := oa_ifp c8 hf
      refine ww_iconst (pc := 25) C dX5_hasTwo_25 kc_0 ?_
      obtain rfl := Option.some.inj hf
      exact ww_zret (pc := 26) C kz_0 rfl dX5_hasTwo_26
    · have hf := oa_ifn c8 hf
      refine ww_iload_n (pc := 16) (i := 1) C 1 dX5_hasTwo_16 rfl rfl ?_
      refine ww_iload_n (pc := 17) (i := 2) C 2 dX5_hasTwo_17 rfl rfl ?_
      refine ww_icmp_eq (pc := 18) (tgt := 25) C dX5_hasTwo_18 (by decide) (fun c9 => ?_) (fun c9 => ?_)
      · have hf := oa_ifp c9 hf
        refine ww_iconst (pc := 25) C dX5_hasTwo_25 kc_0 ?_
        obtain rfl := Option.some.inj hf
        exact ww_zret (pc := 26) C kz_0 rfl dX5_hasTwo_26
      · have hf := oa_ifn c9 hf
        refine ww_iconst (pc := 21) C dX5_hasTwo_21 kc_1 ?_
        refine ww_goto (pc := 22) (tgt := 26) C dX5_hasTwo_22 (by decide) ?_
        obtain rfl := Option.some.inj hf
        exact ww_zret (pc := 26) C kz_1 rfl dX5_hasTwo_26
theorem dX5_canMeet_0 : decode cX5_canMeet 0 = .ok (.aload_n 0, 1) := by decide +kernel
theorem dX5_canMeet_1 : decode cX5_canMeet 1 = .ok (.iload_n 1, 1) := by decide +kernel
theorem dX5_canMeet_2 : decode cX5_canMeet 2 = .ok (.invokevirtual 66, 3) := by decide +kernel
theorem dX5_canMeet_5 : decode cX5_canMeet 5 = .ok (.ifCond .eq 22, 3) := by decide +kernel
theorem dX5_canMeet_8 : decode cX5_canMeet 8 = .ok (.iload_n 2, 1) := by decide +kernel
theorem dX5_canMeet_9 : decode cX5_canMeet 9 = .ok (.bipush 6, 2) := by decide +kernel
theorem dX5_canMeet_11 : decode cX5_canMeet 11 = .ok (.if_icmp .eq 12, 3) := by decide +kernel
theorem dX5_canMeet_14 : decode cX5_canMeet 14 = .ok (.aload_n 0, 1) := by decide +kernel
theorem dX5_canMeet_15 : decode cX5_canMeet 15 = .ok (.iload_n 1, 1) := by decide +kernel
theorem dX5_canMeet_16 : decode cX5_canMeet 16 = .ok (.iload_n 2, 1) := by decide +kernel
theorem dX5_canMeet_17 : decode cX5_canMeet 17 = .ok (.invokevirtual 74, 3) := by decide +kernel
theorem dX5_canMeet_20 : decode cX5_canMeet 20 = .ok (.ifCond .eq 7, 3) := by decide +kernel
theorem dX5_canMeet_23 : decode cX5_canMeet 23 = .ok (.iconst 1, 1) := by decide +kernel
theorem dX5_canMeet_24 : decode cX5_canMeet 24 = .ok (.goto 4, 3) := by decide +kernel
theorem dX5_canMeet_27 : decode cX5_canMeet 27 = .ok (.iconst 0, 1) := by decide +kernel
theorem dX5_canMeet_28 : decode cX5_canMeet 28 = .ok (.ireturn, 1) := by decide +kernel
abbrev rm_X5_canMeet : Room := { frames := 3, cells := 0, slots := 0, locals := 65 }
theorem m_X5_canMeet (l : Launch) (O : oa_O) (h : Nat → Nat) (V : oa_I2) (x1 : Int32) (x2 : Int32) (res : Int32) (hf : f_X5_canMeet V x1 x2 = some res) : oa_M l yX5_canMeet cX5_canMeet 3 (some .boolean) rm_X5_canMeet O [.ref (h 0), .int x1, .int x2] (wd_V O h V) (some (.int res)) (fun W1 => W1 = wd_V O h V) := by
  refine oa_Mof (by decide) (Nat.le_of_ble_eq_true rfl) (fun G A hl C => ?_)
  subst hl
  have C : oa_C G cX5_canMeet 3 RX5 (some .boolean) rm_X5_canMeet O A := C
  have hf : f_X5_canMeet V x1 x2 = some res := hf
  delta f_X5_canMeet at hf
  show ww G 3 O A (oa_Q G O A (0, 0) (some (.int res)) (fun W1 => W1 = wd_V O h V)) (0, 0) 0 [(0, .ref (h 0)), (1, .int x1), (2, .int x2)] [] (wd_V O h V)
  refine ww_aload_n (pc := 0) (i := 0) C 0 dX5_canMeet_0 rfl rfl ?_
  refine ww_iload_n (pc := 1) (i := 1) C 1 dX5_canMeet_1 rfl rfl ?_
  obtain ⟨y1, e2, hf⟩ := oa_bind hf
  refine ww_callV (pc := 2) (As := [.int x1]) (rest := []) (wd := wd_V O h V) (ws' := wd_V O h V) (rv := (some (.int y1))) C hY_X5_has hV_X5_has lk_X5_66 (m_X5_has _ O h V x1 _ e2) [0, 1, 2, 3, 4, 5] 0 rfl rfl rfl rfl rfl (oa_putS _ _ _ rfl) (fun _ h => h) ⟨rfl, rfl⟩ ⟨Nat.zero_le _, Nat.zero_le _⟩ ⟨Nat.le_of_ble_eq_true rfl, Nat.le_of_ble_eq_true rfl⟩ rfl (Nat.le_of_ble_eq_true rfl) rfl rfl dX5_canMeet_2 ?_
  refine ww_if_eq (pc := 5) (tgt := 27) C dX5_canMeet_5 (by decide) (fun c4 => ?_) (fun c4 => ?_)
  · have hf := oa_ifp c4 hf
    refine ww_iconst (pc := 27) C dX5_canMeet_27 kc_0 ?_
    obtain rfl := Option.some.inj hf
    exact ww_zret (pc := 28) C kz_0 rfl dX5_canMeet_28
  · have hf := oa_ifn c4 hf
    refine ww_iload_n (pc := 8) (i := 2) C 2 dX5_canMeet_8 rfl rfl ?_
    refine ww_bipush (pc := 9) C dX5_canMeet_9 kb_6 ?_
    refine ww_icmp_eq (pc := 11) (tgt := 23) C dX5_canMeet_11 (by decide) (fun c5 => ?_) (fun c5 => ?_)
    · have hf := oa_ifp c5 hf
      refine ww_iconst (pc := 23) C dX5_canMeet_23 kc_1 ?_
      refine ww_goto (pc := 24) (tgt := 28) C dX5_canMeet_24 (by decide) ?_
      obtain rfl := Option.some.inj hf
      exact ww_zret (pc := 28) C kz_1 rfl dX5_canMeet_28
    · have hf := oa_ifn c5 hf
      refine ww_aload_n (pc := 14) (i := 0) C 0 dX5_canMeet_14 rfl rfl ?_
      refine ww_iload_n (pc := 15) (i := 1) C 1 dX5_canMeet_15 rfl rfl ?_
      refine ww_iload_n (pc := 16) (i := 2) C 2 dX5_canMeet_16 rfl rfl ?_
      obtain ⟨y6, e7, hf⟩ := oa_bind hf
      refine ww_callV (pc := 17) (As := [.int x1, .int x2]) (rest := []) (wd := wd_V O h V) (ws' := wd_V O h V) (rv := (some (.int y6))) C hY_X5_hasTwo hV_X5_hasTwo lk_X5_74 (m_X5_hasTwo _ O h V x1 x2 _ e7) [0, 1, 2, 3, 4, 5] 0 rfl rfl rfl rfl rfl (oa_putS _ _ _ rfl) (fun _ h => h) ⟨rfl, rfl⟩ ⟨Nat.zero_le _, Nat.zero_le _⟩ ⟨Nat.le_of_ble_eq_true rfl, Nat.le_of_ble_eq_true rfl⟩ rfl (Nat.le_of_ble_eq_true rfl) rfl rfl dX5_canMeet_17 ?_
      refine ww_if_eq (pc := 20) (tgt := 27) C dX5_canMeet_20 (by decide) (fun c9 => ?_) (fun c9 => ?_)
      · have hf := oa_ifp c9 hf
        refine ww_iconst (pc := 27) C dX5_canMeet_27 kc_0 ?_
        obtain rfl := Option.some.inj hf
        exact ww_zret (pc := 28) C kz_0 rfl dX5_canMeet_28
      · have hf := oa_ifn c9 hf
        refine ww_iconst (pc := 23) C dX5_canMeet_23 kc_1 ?_
        refine ww_goto (pc := 24) (tgt := 28) C dX5_canMeet_24 (by decide) ?_
        obtain rfl := Option.some.inj hf
        exact ww_zret (pc := 28) C kz_1 rfl dX5_canMeet_28
theorem dX5_isFree_0 : decode cX5_isFree 0 = .ok (.aload_n 0, 1) := by decide +kernel
theorem dX5_isFree_1 : decode cX5_isFree 1 = .ok (.invokevirtual 100, 3) := by decide +kernel
theorem dX5_isFree_4 : decode cX5_isFree 4 = .ok (.iload_n 1, 1) := by decide +kernel
theorem dX5_isFree_5 : decode cX5_isFree 5 = .ok (.ishr, 1) := by decide +kernel
theorem dX5_isFree_6 : decode cX5_isFree 6 = .ok (.iconst 1, 1) := by decide +kernel
theorem dX5_isFree_7 : decode cX5_isFree 7 = .ok (.iand, 1) := by decide +kernel
theorem dX5_isFree_8 : decode cX5_isFree 8 = .ok (.ifCond .eq 7, 3) := by decide +kernel
theorem dX5_isFree_11 : decode cX5_isFree 11 = .ok (.iconst 1, 1) := by decide +kernel
theorem dX5_isFree_12 : decode cX5_isFree 12 = .ok (.goto 4, 3) := by decide +kernel
theorem dX5_isFree_15 : decode cX5_isFree 15 = .ok (.iconst 0, 1) := by decide +kernel
theorem dX5_isFree_16 : decode cX5_isFree 16 = .ok (.ireturn, 1) := by decide +kernel
abbrev rm_X5_isFree : Room := { frames := 2, cells := 0, slots := 0, locals := 42 }
theorem m_X5_isFree (l : Launch) (O : oa_O) (h : Nat → Nat) (V : oa_I2) (x1 : Int32) (res : Int32) (hf : f_X5_isFree V x1 = some res) : oa_M l yX5_isFree cX5_isFree 2 (some .boolean) rm_X5_isFree O [.ref (h 0), .int x1] (wd_V O h V) (some (.int res)) (fun W1 => W1 = wd_V O h V) := by
  refine oa_Mof (by decide) (Nat.le_of_ble_eq_true rfl) (fun G A hl C => ?_)
  subst hl
  have C : oa_C G cX5_isFree 2 RX5 (some .boolean) rm_X5_isFree O A := C
  have hf : f_X5_isFree V x1 = some res := hf
  delta f_X5_isFree at hf
  show ww G 2 O A (oa_Q G O A (0, 0) (some (.int res)) (fun W1 => W1 = wd_V O h V)) (0, 0) 0 [(0, .ref (h 0)), (1, .int x1)] [] (wd_V O h V)
  refine ww_aload_n (pc := 0) (i := 0) C 0 dX5_isFree_0 rfl rfl ?_
  obtain ⟨y1, e2, hf⟩ := oa_bind hf
  refine ww_callV (pc := 1) (As := []) (rest := []) (wd := wd_V O h V) (ws' := wd_V O h V) (rv := (some (.int y1))) C hY_X5_free hV_X5_free lk_X5_100 (m_X5_free _ O h V _ e2) [0, 1, 2, 3, 4, 5] 0 rfl rfl rfl rfl rfl (oa_putS _ _ _ rfl) (fun _ h => h) ⟨rfl, rfl⟩ ⟨Nat.zero_le _, Nat.zero_le _⟩ ⟨Nat.le_of_ble_eq_true rfl, Nat.le_of_ble_eq_true rfl⟩ rfl (Nat.le_of_ble_eq_true rfl) rfl rfl dX5_isFree_1 ?_
  refine ww_iload_n (pc := 4) (i := 1) C 1 dX5_isFree_4 rfl rfl ?_
  refine ww_ishr (pc := 5) C dX5_isFree_5 ?_
  refine ww_iconst (pc := 6) C dX5_isFree_6 kc_1 ?_
  refine ww_iand (pc := 7) C dX5_isFree_7 ?_
  refine ww_if_eq (pc := 8) (tgt := 15) C dX5_isFree_8 (by decide) (fun c4 => ?_) (fun c4 => ?_)
  · have hf := oa_ifp c4 hf
    refine ww_iconst (pc := 15) C dX5_isFree_15 kc_0 ?_
    obtain rfl := Option.some.inj hf
    exact ww_zret (pc := 16) C kz_0 rfl dX5_isFree_16
  · have hf := oa_ifn c4 hf
    refine ww_iconst (pc := 11) C dX5_isFree_11 kc_1 ?_
    refine ww_goto (pc := 12) (tgt := 16) C dX5_isFree_12 (by decide) ?_
    obtain rfl := Option.some.inj hf
    exact ww_zret (pc := 16) C kz_1 rfl dX5_isFree_16
theorem dX5_begin_0 : decode cX5_begin 0 = .ok (.aload_n 0, 1) := by decide +kernel
theorem dX5_begin_1 : decode cX5_begin 1 = .ok (.iload_n 1, 1) := by decide +kernel
theorem dX5_begin_2 : decode cX5_begin 2 = .ok (.iload_n 2, 1) := by decide +kernel
theorem dX5_begin_3 : decode cX5_begin 3 = .ok (.invokevirtual 87, 3) := by decide +kernel
theorem dX5_begin_6 : decode cX5_begin 6 = .ok (.ifCond .ne 5, 3) := by decide +kernel
theorem dX5_begin_9 : decode cX5_begin 9 = .ok (.iconst (-1), 1) := by decide +kernel
theorem dX5_begin_10 : decode cX5_begin 10 = .ok (.ireturn, 1) := by decide +kernel
theorem dX5_begin_11 : decode cX5_begin 11 = .ok (.aload_n 0, 1) := by decide +kernel
theorem dX5_begin_12 : decode cX5_begin 12 = .ok (.iload_n 1, 1) := by decide +kernel
theorem dX5_begin_13 : decode cX5_begin 13 = .ok (.iload_n 2, 1) := by decide +kernel
theorem dX5_begin_14 : decode cX5_begin 14 = .ok (.invokevirtual 90, 3) := by decide +kernel
theorem dX5_begin_17 : decode cX5_begin 17 = .ok (.ifCond .eq 6, 3) := by decide +kernel
theorem dX5_begin_20 : decode cX5_begin 20 = .ok (.bipush (-2), 2) := by decide +kernel
theorem dX5_begin_22 : decode cX5_begin 22 = .ok (.ireturn, 1) := by decide +kernel
theorem dX5_begin_23 : decode cX5_begin 23 = .ok (.aload_n 0, 1) := by decide +kernel
theorem dX5_begin_24 : decode cX5_begin 24 = .ok (.iload_n 1, 1) := by decide +kernel
theorem dX5_begin_25 : decode cX5_begin 25 = .ok (.invokevirtual 93, 3) := by decide +kernel
theorem dX5_begin_28 : decode cX5_begin 28 = .ok (.ifCond .ne 6, 3) := by decide +kernel
theorem dX5_begin_31 : decode cX5_begin 31 = .ok (.bipush (-3), 2) := by decide +kernel
theorem dX5_begin_33 : decode cX5_begin 33 = .ok (.ireturn, 1) := by decide +kernel
theorem dX5_begin_34 : decode cX5_begin 34 = .ok (.aload_n 0, 1) := by decide +kernel
theorem dX5_begin_35 : decode cX5_begin 35 = .ok (.iload_n 1, 1) := by decide +kernel
theorem dX5_begin_36 : decode cX5_begin 36 = .ok (.iload_n 2, 1) := by decide +kernel
theorem dX5_begin_37 : decode cX5_begin 37 = .ok (.invokevirtual 96, 3) := by decide +kernel
theorem dX5_begin_40 : decode cX5_begin 40 = .ok (.aload_n 0, 1) := by decide +kernel
theorem dX5_begin_41 : decode cX5_begin 41 = .ok (.iload_n 1, 1) := by decide +kernel
theorem dX5_begin_42 : decode cX5_begin 42 = .ok (.invokevirtual 84, 3) := by decide +kernel
theorem dX5_begin_45 : decode cX5_begin 45 = .ok (.ireturn, 1) := by decide +kernel
abbrev rm_X5_begin : Room := { frames := 4, cells := 0, slots := 0, locals := 87 }
theorem m_X5_begin (l : Launch) (O : oa_O) (h : Nat → Nat) (V : oa_I2) (x1 : Int32) (x2 : Int32) (res : Int32 × oa_I2) (hf : f_X5_begin V x1 x2 = some res) : oa_M l yX5_begin cX5_begin 3 (some .int) rm_X5_begin O [.ref (h 0), .int x1, .int x2] (wd_V O h V) (some (.int res.1)) (fun W1 => W1 = wd_V O h res.2) := by
  refine oa_Mof (by decide) (Nat.le_of_ble_eq_true rfl) (fun G A hl C => ?_)
  subst hl
  have C : oa_C G cX5_begin 3 RX5 (some .int) rm_X5_begin O A := C
  have hf : f_X5_begin V x1 x2 = some res := hf
  delta f_X5_begin at hf
  show ww G 3 O A (oa_Q G O A (0, 0) (some (.int res.1)) (fun W1 => W1 = wd_V O h res.2)) (0, 0) 0 [(0, .ref (h 0)), (1, .int x1), (2, .int x2)] [] (wd_V O h V)
  refine ww_aload_n (pc := 0) (i := 0) C 0 dX5_begin_0 rfl rfl ?_
  refine ww_iload_n (pc := 1) (i := 1) C 1 dX5_begin_1 rfl rfl ?_
  refine ww_iload_n (pc := 2) (i := 2) C 2 dX5_begin_2 rfl rfl ?_
  obtain ⟨y1, e2, hf⟩ := oa_bind hf
  refine ww_callV (pc := 3) (As := [.int x1, .int x2]) (rest := []) (wd := wd_V O h V) (ws' := wd_V O h V) (rv := (some (.int y1))) C hY_X5_canMeet hV_X5_canMeet lk_X5_87 (m_X5_canMeet _ O h V x1 x2 _ e2) [0, 1, 2, 3, 4, 5] 0 rfl rfl rfl rfl rfl (oa_putS _ _ _ rfl) (fun _ h => h) ⟨rfl, rfl⟩ ⟨Nat.zero_le _, Nat.zero_le _⟩ ⟨Nat.le_of_ble_eq_true rfl, Nat.le_of_ble_eq_true rfl⟩ rfl (Nat.le_of_ble_eq_true rfl) rfl rfl dX5_begin_3 ?_
  refine ww_if_ne (pc := 6) (tgt := 11) C dX5_begin_6 (by decide) (fun c4 => ?_) (fun c4 => ?_)
  · have hf := oa_ifn c4 hf
    refine ww_aload_n (pc := 11) (i := 0) C 0 dX5_begin_11 rfl rfl ?_
    refine ww_iload_n (pc := 12) (i := 1) C 1 dX5_begin_12 rfl rfl ?_
    refine ww_iload_n (pc := 13) (i := 2) C 2 dX5_begin_13 rfl rfl ?_
    obtain ⟨y5, e6, hf⟩ := oa_bind hf
    refine ww_callV (pc := 14) (As := [.int x1, .int x2]) (rest := []) (wd := wd_V O h V) (ws' := wd_V O h V) (rv := (some (.int y5))) C hY_X5_isAngry hV_X5_isAngry lk_X5_90 (m_X5_isAngry _ O h V x1 x2 _ e6) [0, 1, 2, 3, 4, 5] 0 rfl rfl rfl rfl rfl (oa_putS _ _ _ rfl) (fun _ h => h) ⟨rfl, rfl⟩ ⟨Nat.zero_le _, Nat.zero_le _⟩ ⟨Nat.le_of_ble_eq_true rfl, Nat.le_of_ble_eq_true rfl⟩ rfl (Nat.le_of_ble_eq_true rfl) rfl rfl dX5_begin_14 ?_
    refine ww_if_eq (pc := 17) (tgt := 23) C dX5_begin_17 (by decide) (fun c8 => ?_) (fun c8 => ?_)
    · have hf := oa_ifp c8 hf
      refine ww_aload_n (pc := 23) (i := 0) C 0 dX5_begin_23 rfl rfl ?_
      refine ww_iload_n (pc := 24) (i := 1) C 1 dX5_begin_24 rfl rfl ?_
      obtain ⟨y9, e10, hf⟩ := oa_bind hf
      refine ww_callV (pc := 25) (As := [.int x1]) (rest := []) (wd := wd_V O h V) (ws' := wd_V O h V) (rv := (some (.int y9))) C hY_X5_isFree hV_X5_isFree lk_X5_93 (m_X5_isFree _ O h V x1 _ e10) [0, 1, 2, 3, 4, 5] 0 rfl rfl rfl rfl rfl (oa_putS _ _ _ rfl) (fun _ h => h) ⟨rfl, rfl⟩ ⟨Nat.zero_le _, Nat.zero_le _⟩ ⟨Nat.le_of_ble_eq_true rfl, Nat.le_of_ble_eq_true rfl⟩ rfl (Nat.le_of_ble_eq_true rfl) rfl rfl dX5_begin_25 ?_
      refine ww_if_ne (pc := 28) (tgt := 34) C dX5_begin_28 (by decide) (fun c12 => ?_) (fun c12 => ?_)
      · have hf := oa_ifn c12 hf
        refine ww_aload_n (pc := 34) (i := 0) C 0 dX5_begin_34 rfl rfl ?_
        refine ww_iload_n (pc := 35) (i := 1) C 1 dX5_begin_35 rfl rfl ?_
        refine ww_iload_n (pc := 36) (i := 2) C 2 dX5_begin_36 rfl rfl ?_
        obtain ⟨V13, e14, hf⟩ := oa_bind hf
        refine ww_callV (pc := 37) (As := [.int x1, .int x2]) (rest := []) (wd := wd_V O h V13) (ws' := wd_V O h V13) (rv := none) C hY_X5_start hV_X5_start lk_X5_96 (m_X5_start _ O h V x1 x2 _ e14) [0, 1, 2, 3, 4, 5] 0 rfl rfl rfl rfl rfl rfl (fun _ h => h) ⟨rfl, rfl⟩ ⟨Nat.zero_le _, Nat.zero_le _⟩ ⟨Nat.le_of_ble_eq_true rfl, Nat.le_of_ble_eq_true rfl⟩ rfl (Nat.le_of_ble_eq_true rfl) rfl rfl dX5_begin_37 ?_
        refine ww_aload_n (pc := 40) (i := 0) C 0 dX5_begin_40 rfl rfl ?_
        refine ww_iload_n (pc := 41) (i := 1) C 1 dX5_begin_41 rfl rfl ?_
        obtain ⟨y16, e17, hf⟩ := oa_bind hf
        refine ww_callV (pc := 42) (As := [.int x1]) (rest := []) (wd := wd_V O h V13) (ws' := wd_V O h V13) (rv := (some (.int y16))) C hY_X5_angersOf hV_X5_angersOf lk_X5_84 (m_X5_angersOf _ O h V13 x1 _ e17) [0, 1, 2, 3, 4, 5] 0 rfl rfl rfl rfl rfl (oa_putS _ _ _ rfl) (fun _ h => h) ⟨rfl, rfl⟩ ⟨Nat.zero_le _, Nat.zero_le _⟩ ⟨Nat.le_of_ble_eq_true rfl, Nat.le_of_ble_eq_true rfl⟩ rfl (Nat.le_of_ble_eq_true rfl) rfl rfl dX5_begin_42 ?_
        obtain rfl := Option.some.inj hf
        exact ww_iret (pc := 45) C rfl dX5_begin_45
      · have hf := oa_ifp c12 hf
        refine ww_bipush (pc := 31) C dX5_begin_31 kb_m3 ?_
        obtain rfl := Option.some.inj hf
        exact ww_iret (pc := 33) C rfl dX5_begin_33
    · have hf := oa_ifn c8 hf
      refine ww_bipush (pc := 20) C dX5_begin_20 kb_m2 ?_
      obtain rfl := Option.some.inj hf
      exact ww_iret (pc := 22) C rfl dX5_begin_22
  · have hf := oa_ifp c4 hf
    refine ww_iconst (pc := 9) C dX5_begin_9 kc_m1 ?_
    obtain rfl := Option.some.inj hf
    exact ww_iret (pc := 10) C rfl dX5_begin_10
theorem dX5_copyOf_0 : decode cX5_copyOf 0 = .ok (.aload_n 1, 1) := by decide +kernel
theorem dX5_copyOf_1 : decode cX5_copyOf 1 = .ok (.getfield 9, 3) := by decide +kernel
theorem dX5_copyOf_4 : decode cX5_copyOf 4 = .ok (.iconst 0, 1) := by decide +kernel
theorem dX5_copyOf_5 : decode cX5_copyOf 5 = .ok (.aload_n 0, 1) := by decide +kernel
theorem dX5_copyOf_6 : decode cX5_copyOf 6 = .ok (.getfield 9, 3) := by decide +kernel
theorem dX5_copyOf_9 : decode cX5_copyOf 9 = .ok (.iconst 0, 1) := by decide +kernel
theorem dX5_copyOf_10 : decode cX5_copyOf 10 = .ok (.iconst 3, 1) := by decide +kernel
theorem dX5_copyOf_11 : decode cX5_copyOf 11 = .ok (.invokestatic 33, 3) := by decide +kernel
theorem dX5_copyOf_14 : decode cX5_copyOf 14 = .ok (.aload_n 1, 1) := by decide +kernel
theorem dX5_copyOf_15 : decode cX5_copyOf 15 = .ok (.getfield 15, 3) := by decide +kernel
theorem dX5_copyOf_18 : decode cX5_copyOf 18 = .ok (.iconst 0, 1) := by decide +kernel
theorem dX5_copyOf_19 : decode cX5_copyOf 19 = .ok (.aload_n 0, 1) := by decide +kernel
theorem dX5_copyOf_20 : decode cX5_copyOf 20 = .ok (.getfield 15, 3) := by decide +kernel
theorem dX5_copyOf_23 : decode cX5_copyOf 23 = .ok (.iconst 0, 1) := by decide +kernel
theorem dX5_copyOf_24 : decode cX5_copyOf 24 = .ok (.bipush 48, 2) := by decide +kernel
theorem dX5_copyOf_26 : decode cX5_copyOf 26 = .ok (.invokestatic 33, 3) := by decide +kernel
theorem dX5_copyOf_29 : decode cX5_copyOf 29 = .ok (.aload_n 1, 1) := by decide +kernel
theorem dX5_copyOf_30 : decode cX5_copyOf 30 = .ok (.getfield 18, 3) := by decide +kernel
theorem dX5_copyOf_33 : decode cX5_copyOf 33 = .ok (.iconst 0, 1) := by decide +kernel
theorem dX5_copyOf_34 : decode cX5_copyOf 34 = .ok (.aload_n 0, 1) := by decide +kernel
theorem dX5_copyOf_35 : decode cX5_copyOf 35 = .ok (.getfield 18, 3) := by decide +kernel
theorem dX5_copyOf_38 : decode cX5_copyOf 38 = .ok (.iconst 0, 1) := by decide +kernel
theorem dX5_copyOf_39 : decode cX5_copyOf 39 = .ok (.bipush 6, 2) := by decide +kernel
theorem dX5_copyOf_41 : decode cX5_copyOf 41 = .ok (.invokestatic 33, 3) := by decide +kernel
theorem dX5_copyOf_44 : decode cX5_copyOf 44 = .ok (.aload_n 1, 1) := by decide +kernel
theorem dX5_copyOf_45 : decode cX5_copyOf 45 = .ok (.getfield 21, 3) := by decide +kernel
theorem dX5_copyOf_48 : decode cX5_copyOf 48 = .ok (.iconst 0, 1) := by decide +kernel
theorem dX5_copyOf_49 : decode cX5_copyOf 49 = .ok (.aload_n 0, 1) := by decide +kernel
theorem dX5_copyOf_50 : decode cX5_copyOf 50 = .ok (.getfield 21, 3) := by decide +kernel
theorem dX5_copyOf_53 : decode cX5_copyOf 53 = .ok (.iconst 0, 1) := by decide +kernel
theorem dX5_copyOf_54 : decode cX5_copyOf 54 = .ok (.bipush 36, 2) := by decide +kernel
theorem dX5_copyOf_56 : decode cX5_copyOf 56 = .ok (.invokestatic 33, 3) := by decide +kernel
theorem dX5_copyOf_59 : decode cX5_copyOf 59 = .ok (.aload_n 1, 1) := by decide +kernel
theorem dX5_copyOf_60 : decode cX5_copyOf 60 = .ok (.getfield 24, 3) := by decide +kernel
theorem dX5_copyOf_63 : decode cX5_copyOf 63 = .ok (.iconst 0, 1) := by decide +kernel
theorem dX5_copyOf_64 : decode cX5_copyOf 64 = .ok (.aload_n 0, 1) := by decide +kernel
theorem dX5_copyOf_65 : decode cX5_copyOf 65 = .ok (.getfield 24, 3) := by decide +kernel
theorem dX5_copyOf_68 : decode cX5_copyOf 68 = .ok (.iconst 0, 1) := by decide +kernel
theorem dX5_copyOf_69 : decode cX5_copyOf 69 = .ok (.bipush 6, 2) := by decide +kernel
theorem dX5_copyOf_71 : decode cX5_copyOf 71 = .ok (.invokestatic 33, 3) := by decide +kernel
theorem dX5_copyOf_74 : decode cX5_copyOf 74 = .ok (.aload_n 0, 1) := by decide +kernel
theorem dX5_copyOf_75 : decode cX5_copyOf 75 = .ok (.aload_n 1, 1) := by decide +kernel
theorem dX5_copyOf_76 : decode cX5_copyOf 76 = .ok (.getfield 49, 3) := by decide +kernel
theorem dX5_copyOf_79 : decode cX5_copyOf 79 = .ok (.putfield 49, 3) := by decide +kernel
theorem dX5_copyOf_82 : decode cX5_copyOf 82 = .ok (.aload_n 0, 1) := by decide +kernel
theorem dX5_copyOf_83 : decode cX5_copyOf 83 = .ok (.aload_n 1, 1) := by decide +kernel
theorem dX5_copyOf_84 : decode cX5_copyOf 84 = .ok (.getfield 53, 3) := by decide +kernel
theorem dX5_copyOf_87 : decode cX5_copyOf 87 = .ok (.putfield 53, 3) := by decide +kernel
theorem dX5_copyOf_90 : decode cX5_copyOf 90 = .ok (.aload_n 0, 1) := by decide +kernel
theorem dX5_copyOf_91 : decode cX5_copyOf 91 = .ok (.aload_n 1, 1) := by decide +kernel
theorem dX5_copyOf_92 : decode cX5_copyOf 92 = .ok (.getfield 56, 3) := by decide +kernel
theorem dX5_copyOf_95 : decode cX5_copyOf 95 = .ok (.putfield 56, 3) := by decide +kernel
theorem dX5_copyOf_98 : decode cX5_copyOf 98 = .ok (.aload_n 0, 1) := by decide +kernel
theorem dX5_copyOf_99 : decode cX5_copyOf 99 = .ok (.aload_n 1, 1) := by decide +kernel
theorem dX5_copyOf_100 : decode cX5_copyOf 100 = .ok (.getfield 59, 3) := by decide +kernel
theorem dX5_copyOf_103 : decode cX5_copyOf 103 = .ok (.putfield 59, 3) := by decide +kernel
theorem dX5_copyOf_106 : decode cX5_copyOf 106 = .ok (.return_, 1) := by decide +kernel
abbrev rm_X5_copyOf : Room := { frames := 1, cells := 0, slots := 0, locals := 24 }
theorem m_X5_copyOf (l : Launch) (O : oa_O) (h : Nat → Nat) (g : Nat → Nat) (V : oa_I2) (U : oa_I2)  (res : oa_I2) (hf : f_X5_copyOf V U = some res) : oa_M l yX5_copyOf cX5_copyOf 2 none rm_X5_copyOf O [.ref (h 0), .ref (g 0)] (wd_VV O h g V U) none (fun W1 => W1 = wd_VV O h g res U) := by
  refine oa_Mof (by decide) (Nat.le_of_ble_eq_true rfl) (fun G A hl C => ?_)
  subst hl
  have C : oa_C G cX5_copyOf 2 RX5 none rm_X5_copyOf O A := C
  have hf : f_X5_copyOf V U = some res := hf
  delta f_X5_copyOf at hf
  show ww G 2 O A (oa_Q G O A (0, 0) none (fun W1 => W1 = wd_VV O h g res U)) (0, 0) 0 [(0, .ref (h 0)), (1, .ref (g 0))] [] (wd_VV O h g V U)
  refine ww_aload_n (pc := 0) (i := 1) C 1 dX5_copyOf_0 rfl rfl ?_
  refine ww_get (pc := 1) C fl_X5_9 6 rfl rfl dX5_copyOf_1 ?_
  refine ww_iconst (pc := 4) C dX5_copyOf_4 kc_0 ?_
  refine ww_aload_n (pc := 5) (i := 0) C 0 dX5_copyOf_5 rfl rfl ?_
  refine ww_get (pc := 6) C fl_X5_9 0 rfl rfl dX5_copyOf_6 ?_
  refine ww_iconst (pc := 9) C dX5_copyOf_9 kc_0 ?_
  refine ww_iconst (pc := 10) C dX5_copyOf_10 kc_3 ?_
  obtain ⟨V1, e2, hf⟩ := oa_letE hf
  refine ww_acp (pc := 11) C lk_X5_33 (fun Z => wd_VV O h g Z U) 7 1 rfl rfl 3 rfl ⟨rfl, rfl⟩ (by decide) e2 rfl (by decide) (by decide) dX5_copyOf_11 ?_
  refine ww_aload_n (pc := 14) (i := 1) C 1 dX5_copyOf_14 rfl rfl ?_
  refine ww_get (pc := 15) C fl_X5_15 6 rfl rfl dX5_copyOf_15 ?_
  refine ww_iconst (pc := 18) C dX5_copyOf_18 kc_0 ?_
  refine ww_aload_n (pc := 19) (i := 0) C 0 dX5_copyOf_19 rfl rfl ?_
  refine ww_get (pc := 20) C fl_X5_15 0 rfl rfl dX5_copyOf_20 ?_
  refine ww_iconst (pc := 23) C dX5_copyOf_23 kc_0 ?_
  refine ww_bipush (pc := 24) C dX5_copyOf_24 kb_48 ?_
  obtain ⟨V3, e4, hf⟩ := oa_letE hf
  refine ww_acp (pc := 26) C lk_X5_33 (fun Z => wd_VV O h g Z U) 8 2 rfl rfl 48 rfl ⟨rfl, rfl⟩ (by decide) e4 rfl (by decide) (by decide) dX5_copyOf_26 ?_
  refine ww_aload_n (pc := 29) (i := 1) C 1 dX5_copyOf_29 rfl rfl ?_
  refine ww_get (pc := 30) C fl_X5_18 6 rfl rfl dX5_copyOf_30 ?_
  refine ww_iconst (pc := 33) C dX5_copyOf_33 kc_0 ?_
  refine ww_aload_n (pc := 34) (i := 0) C 0 dX5_copyOf_34 rfl rfl ?_
  refine ww_get (pc := 35) C fl_X5_18 0 rfl rfl dX5_copyOf_35 ?_
  refine ww_iconst (pc := 38) C dX5_copyOf_38 kc_0 ?_
  refine ww_bipush (pc := 39) C dX5_copyOf_39 kb_6 ?_
  obtain ⟨V5, e6, hf⟩ := oa_letE hf
  refine ww_acp (pc := 41) C lk_X5_33 (fun Z => wd_VV O h g Z U) 9 3 rfl rfl 6 rfl ⟨rfl, rfl⟩ (by decide) e6 rfl (by decide) (by decide) dX5_copyOf_41 ?_
  refine ww_aload_n (pc := 44) (i := 1) C 1 dX5_copyOf_44 rfl rfl ?_
  refine ww_get (pc := 45) C fl_X5_21 6 rfl rfl dX5_copyOf_45 ?_
  refine ww_iconst (pc := 48) C dX5_copyOf_48 kc_0 ?_
  refine ww_aload_n (pc := 49) (i := 0) C 0 dX5_copyOf_49 rfl rfl ?_
  refine ww_get (pc := 50) C fl_X5_21 0 rfl rfl dX5_copyOf_50 ?_
  refine ww_iconst (pc := 53) C dX5_copyOf_53 kc_0 ?_
  refine ww_bipush (pc := 54) C dX5_copyOf_54 kb_36 ?_
  obtain ⟨V7, e8, hf⟩ := oa_letE hf
  refine ww_acp (pc := 56) C lk_X5_33 (fun Z => wd_VV O h g Z U) 10 4 rfl rfl 36 rfl ⟨rfl, rfl⟩ (by decide) e8 rfl (by decide) (by decide) dX5_copyOf_56 ?_
  refine ww_aload_n (pc := 59) (i := 1) C 1 dX5_copyOf_59 rfl rfl ?_
  refine ww_get (pc := 60) C fl_X5_24 6 rfl rfl dX5_copyOf_60 ?_
  refine ww_iconst (pc := 63) C dX5_copyOf_63 kc_0 ?_
  refine ww_aload_n (pc := 64) (i := 0) C 0 dX5_copyOf_64 rfl rfl ?_
  refine ww_get (pc := 65) C fl_X5_24 0 rfl rfl dX5_copyOf_65 ?_
  refine ww_iconst (pc := 68) C dX5_copyOf_68 kc_0 ?_
  refine ww_bipush (pc := 69) C dX5_copyOf_69 kb_6 ?_
  obtain ⟨V9, e10, hf⟩ := oa_letE hf
  refine ww_acp (pc := 71) C lk_X5_33 (fun Z => wd_VV O h g Z U) 11 5 rfl rfl 6 rfl ⟨rfl, rfl⟩ (by decide) e10 rfl (by decide) (by decide) dX5_copyOf_71 ?_
  refine ww_aload_n (pc := 74) (i := 0) C 0 dX5_copyOf_74 rfl rfl ?_
  refine ww_aload_n (pc := 75) (i := 1) C 1 dX5_copyOf_75 rfl rfl ?_
  refine ww_get (pc := 76) C fl_X5_49 6 rfl rfl dX5_copyOf_76 ?_
  obtain ⟨V11, e12, hf⟩ := oa_letE hf
  refine ww_put (pc := 79) C fl_X5_49 (fun Z => wd_VV O h g Z U) 0 rfl rfl rfl (Nat.le_of_ble_eq_true rfl) e12 rfl dX5_copyOf_79 ?_
  refine ww_aload_n (pc := 82) (i := 0) C 0 dX5_copyOf_82 rfl rfl ?_
  refine ww_aload_n (pc := 83) (i := 1) C 1 dX5_copyOf_83 rfl rfl ?_
  refine ww_get (pc := 84) C fl_X5_53 6 rfl rfl dX5_copyOf_84 ?_
  obtain ⟨V13, e14, hf⟩ := oa_letE hf
  refine ww_put (pc := 87) C fl_X5_53 (fun Z => wd_VV O h g Z U) 0 rfl rfl rfl (Nat.le_of_ble_eq_true rfl) e14 rfl dX5_copyOf_87 ?_
  refine ww_aload_n (pc := 90) (i := 0) C 0 dX5_copyOf_90 rfl rfl ?_
  refine ww_aload_n (pc := 91) (i := 1) C 1 dX5_copyOf_91 rfl rfl ?_
  refine ww_get (pc := 92) C fl_X5_56 6 rfl rfl dX5_copyOf_92 ?_
  obtain ⟨V15, e16, hf⟩ := oa_letE hf
  refine ww_put (pc := 95) C fl_X5_56 (fun Z => wd_VV O h g Z U) 0 rfl rfl rfl (Nat.le_of_ble_eq_true rfl) e16 rfl dX5_copyOf_95 ?_
  refine ww_aload_n (pc := 98) (i := 0) C 0 dX5_copyOf_98 rfl rfl ?_
  refine ww_aload_n (pc := 99) (i := 1) C 1 dX5_copyOf_99 rfl rfl ?_
  refine ww_get (pc := 100) C fl_X5_59 6 rfl rfl dX5_copyOf_100 ?_
  obtain ⟨V17, e18, hf⟩ := oa_letE hf
  refine ww_put (pc := 103) C fl_X5_59 (fun Z => wd_VV O h g Z U) 0 rfl rfl rfl (Nat.le_of_ble_eq_true rfl) e18 rfl dX5_copyOf_103 ?_
  obtain rfl := Option.some.inj hf
  exact ww_vret (pc := 106) C rfl dX5_copyOf_106
theorem dX5_minders_0 : decode cX5_minders 0 = .ok (.iconst 0, 1) := by decide +kernel
theorem dX5_minders_1 : decode cX5_minders 1 = .ok (.istore_n 3, 1) := by decide +kernel
theorem dX5_minders_2 : decode cX5_minders 2 = .ok (.iconst 0, 1) := by decide +kernel
theorem dX5_minders_3 : decode cX5_minders 3 = .ok (.istore 4, 2) := by decide +kernel
theorem dX5_minders_5 : decode cX5_minders 5 = .ok (.iload 4, 2) := by decide +kernel
theorem dX5_minders_7 : decode cX5_minders 7 = .ok (.aload_n 0, 1) := by decide +kernel
theorem dX5_minders_8 : decode cX5_minders 8 = .ok (.getfield 49, 3) := by decide +kernel
theorem dX5_minders_11 : decode cX5_minders 11 = .ok (.if_icmp .ge 35, 3) := by decide +kernel
theorem dX5_minders_14 : decode cX5_minders 14 = .ok (.iload_n 2, 1) := by decide +kernel
theorem dX5_minders_15 : decode cX5_minders 15 = .ok (.iload 4, 2) := by decide +kernel
theorem dX5_minders_17 : decode cX5_minders 17 = .ok (.ishr, 1) := by decide +kernel
theorem dX5_minders_18 : decode cX5_minders 18 = .ok (.iconst 1, 1) := by decide +kernel
theorem dX5_minders_19 : decode cX5_minders 19 = .ok (.iand, 1) := by decide +kernel
theorem dX5_minders_20 : decode cX5_minders 20 = .ok (.ifCond .eq 20, 3) := by decide +kernel
theorem dX5_minders_23 : decode cX5_minders 23 = .ok (.aload_n 0, 1) := by decide +kernel
theorem dX5_minders_24 : decode cX5_minders 24 = .ok (.iload 4, 2) := by decide +kernel
theorem dX5_minders_26 : decode cX5_minders 26 = .ok (.iload_n 1, 1) := by decide +kernel
theorem dX5_minders_27 : decode cX5_minders 27 = .ok (.invokevirtual 113, 3) := by decide +kernel
theorem dX5_minders_30 : decode cX5_minders 30 = .ok (.ifCond .eq 10, 3) := by decide +kernel
theorem dX5_minders_33 : decode cX5_minders 33 = .ok (.iload_n 3, 1) := by decide +kernel
theorem dX5_minders_34 : decode cX5_minders 34 = .ok (.iconst 1, 1) := by decide +kernel
theorem dX5_minders_35 : decode cX5_minders 35 = .ok (.iload 4, 2) := by decide +kernel
theorem dX5_minders_37 : decode cX5_minders 37 = .ok (.ishl, 1) := by decide +kernel
theorem dX5_minders_38 : decode cX5_minders 38 = .ok (.ior, 1) := by decide +kernel
theorem dX5_minders_39 : decode cX5_minders 39 = .ok (.istore_n 3, 1) := by decide +kernel
theorem dX5_minders_40 : decode cX5_minders 40 = .ok (.iinc 4 1, 3) := by decide +kernel
theorem dX5_minders_43 : decode cX5_minders 43 = .ok (.goto (-38), 3) := by decide +kernel
theorem dX5_minders_46 : decode cX5_minders 46 = .ok (.iload_n 3, 1) := by decide +kernel
theorem dX5_minders_47 : decode cX5_minders 47 = .ok (.ireturn, 1) := by decide +kernel
abbrev rm_X5_minders : Room := { frames := 2, cells := 0, slots := 0, locals := 44 }
theorem t_b_X5_minders_5 {G : oa_G} {O : oa_O} {A : Nat → Prop} {h : Nat → Nat} {res : Int32} (C : oa_C G cX5_minders 5 RX5 (some .int) rm_X5_minders O A) (V : oa_I2) (x1 : Int32) (x2 : Int32)    (k5 : Int32 → Int32 → Option (Int32))  (hk5 : ∀ (b_x3 : Int32) (b_x4 : Int32), k5 b_x3 b_x4 = some res → ww G 5 O A (oa_Q G O A (0, 0) (some (.int res)) (fun W1 => W1 = wd_V O h V)) (0, 0) 5 [(0, .ref (h 0)), (1, .int x1), (2, .int x2), (3, .int b_x3), (4, .int b_x4)] [] (wd_V O h V)) (x3 : Int32) (x4 : Int32) (hf : b_X5_minders_5 V x1 x2 k5 x3 x4 = some res) : ww G 5 O A (oa_Q G O A (0, 0) (some (.int res)) (fun W1 => W1 = wd_V O h V)) (0, 0) 5 [(0, .ref (h 0)), (1, .int x1), (2, .int x2), (3, .int x3), (4, .int x4)] [] (wd_V O h V) := by
  delta b_X5_minders_5 at hf
  refine ww_iload (pc := 5) (i := 4) C 4 dX5_minders_5 rfl ?_
  refine ww_aload_n (pc := 7) (i := 0) C 0 dX5_minders_7 rfl rfl ?_
  refine ww_get (pc := 8) C fl_X5_49 0 rfl rfl dX5_minders_8 ?_
  refine ww_icmp_ge (pc := 11) (tgt := 46) C dX5_minders_11 (by decide) (fun c1 => ?_) (fun c1 => ?_)
  · have hf := oa_ifp c1 hf
    refine ww_iload_n (pc := 46) (i := 3) C 3 dX5_minders_46 rfl rfl ?_
    obtain rfl := Option.some.inj hf
    exact ww_iret (pc := 47) C rfl dX5_minders_47
  · have hf := oa_ifn c1 hf
    refine ww_iload_n (pc := 14) (i := 2) C 2 dX5_minders_14 rfl rfl ?_
    refine ww_iload (pc := 15) (i := 4) C 4 dX5_minders_15 rfl ?_
    refine ww_ishr (pc := 17) C dX5_minders_17 ?_
    refine ww_iconst (pc := 18) C dX5_minders_18 kc_1 ?_
    refine ww_iand (pc := 19) C dX5_minders_19 ?_
    refine ww_if_eq (pc := 20) (tgt := 40) C dX5_minders_20 (by decide) (fun c2 => ?_) (fun c2 => ?_)
    · have hf := oa_ifp c2 hf
      refine ww_iinc (pc := 40) (v := (x4 + 1)) (L' := [(0, .ref (h 0)), (1, .int x1), (2, .int x2), (3, .int x3), (4, .int (x4 + 1))]) C 4 [1, 2, 3, 4, 0] dX5_minders_40 rfl (ki_1 _) (Nat.le_of_ble_eq_true rfl) rfl ?_
      refine ww_goto (pc := 43) (tgt := 5) C dX5_minders_43 (by decide) ?_
      exact hk5 x3 (x4 + 1) hf
    · have hf := oa_ifn c2 hf
      refine ww_aload_n (pc := 23) (i := 0) C 0 dX5_minders_23 rfl rfl ?_
      refine ww_iload (pc := 24) (i := 4) C 4 dX5_minders_24 rfl ?_
      refine ww_iload_n (pc := 26) (i := 1) C 1 dX5_minders_26 rfl rfl ?_
      obtain ⟨y3, e4, hf⟩ := oa_bind hf
      refine ww_callV (pc := 27) (As := [.int x4, .int x1]) (rest := []) (wd := wd_V O h V) (ws' := wd_V O h V) (rv := (some (.int y3))) C hY_X5_minds hV_X5_minds lk_X5_113 (m_X5_minds _ O h V x4 x1 _ e4) [0, 1, 2, 3, 4, 5] 0 rfl rfl rfl rfl rfl (oa_putS _ _ _ rfl) (fun _ h => h) ⟨rfl, rfl⟩ ⟨Nat.zero_le _, Nat.zero_le _⟩ ⟨Nat.le_of_ble_eq_true rfl, Nat.le_of_ble_eq_true rfl⟩ rfl (Nat.le_of_ble_eq_true rfl) rfl rfl dX5_minders_27 ?_
      refine ww_if_eq (pc := 30) (tgt := 40) C dX5_minders_30 (by decide) (fun c6 => ?_) (fun c6 => ?_)
      · have hf := oa_ifp c6 hf
        refine ww_iinc (pc := 40) (v := (x4 + 1)) (L' := [(0, .ref (h 0)), (1, .int x1), (2, .int x2), (3, .int x3), (4, .int (x4 + 1))]) C 4 [1, 2, 3, 4, 0] dX5_minders_40 rfl (ki_1 _) (Nat.le_of_ble_eq_true rfl) rfl ?_
        refine ww_goto (pc := 43) (tgt := 5) C dX5_minders_43 (by decide) ?_
        exact hk5 x3 (x4 + 1) hf
      · have hf := oa_ifn c6 hf
        refine ww_iload_n (pc := 33) (i := 3) C 3 dX5_minders_33 rfl rfl ?_
        refine ww_iconst (pc := 34) C dX5_minders_34 kc_1 ?_
        refine ww_iload (pc := 35) (i := 4) C 4 dX5_minders_35 rfl ?_
        refine ww_ishl (pc := 37) C dX5_minders_37 ?_
        refine ww_ior (pc := 38) C dX5_minders_38 ?_
        obtain ⟨y7, e8, hf⟩ := oa_letE hf
        refine ww_topi C e8 ?_
        refine ww_istore_n (pc := 39) (L' := [(0, .ref (h 0)), (1, .int x1), (2, .int x2), (3, .int y7), (4, .int x4)]) C [1, 2, 3, 0, 4] dX5_minders_39 rfl (Nat.le_of_ble_eq_true rfl) rfl ?_
        refine ww_iinc (pc := 40) (v := (x4 + 1)) (L' := [(0, .ref (h 0)), (1, .int x1), (2, .int x2), (3, .int y7), (4, .int (x4 + 1))]) C 4 [1, 2, 3, 4, 0] dX5_minders_40 rfl (ki_1 _) (Nat.le_of_ble_eq_true rfl) rfl ?_
        refine ww_goto (pc := 43) (tgt := 5) C dX5_minders_43 (by decide) ?_
        exact hk5 y7 (x4 + 1) hf
theorem t_l_X5_minders_5 {G : oa_G} {O : oa_O} {A : Nat → Prop} {h : Nat → Nat} {res : Int32} (C : oa_C G cX5_minders 5 RX5 (some .int) rm_X5_minders O A) (V : oa_I2) (x1 : Int32) (x2 : Int32)    : ∀ (n : Nat) (x3 : Int32) (x4 : Int32), l_X5_minders_5 V x1 x2 n x3 x4 = some res → ww G 5 O A (oa_Q G O A (0, 0) (some (.int res)) (fun W1 => W1 = wd_V O h V)) (0, 0) 5 [(0, .ref (h 0)), (1, .int x1), (2, .int x2), (3, .int x3), (4, .int x4)] [] (wd_V O h V) := by
  intro n
  induction n with
  | zero => intro x3 x4 hf; exact absurd (show (none : Option (Int32)) = some res from hf) (fun h => nomatch h)
  | succ n ih =>
    intro x3 x4 hf
    exact t_b_X5_minders_5 C V x1 x2  (fun x3 x4 => l_X5_minders_5 V x1 x2 n x3 x4)  (fun x3 x4 h => ih x3 x4 h) x3 x4 hf
theorem m_X5_minders (l : Launch) (O : oa_O) (h : Nat → Nat) (V : oa_I2) (x1 : Int32) (x2 : Int32) (res : Int32) (hf : f_X5_minders V x1 x2 = some res) : oa_M l yX5_minders cX5_minders 5 (some .int) rm_X5_minders O [.ref (h 0), .int x1, .int x2] (wd_V O h V) (some (.int res)) (fun W1 => W1 = wd_V O h V) := by
  refine oa_Mof (by decide) (Nat.le_of_ble_eq_true rfl) (fun G A hl C => ?_)
  subst hl
  have C : oa_C G cX5_minders 5 RX5 (some .int) rm_X5_minders O A := C
  have hf : f_X5_minders V x1 x2 = some res := hf
  delta f_X5_minders at hf
  show ww G 5 O A (oa_Q G O A (0, 0) (some (.int res)) (fun W1 => W1 = wd_V O h V)) (0, 0) 0 [(0, .ref (h 0)), (1, .int x1), (2, .int x2)] [] (wd_V O h V)
  refine ww_iconst (pc := 0) C dX5_minders_0 kc_0 ?_
  refine ww_istore_n (pc := 1) (L' := [(0, .ref (h 0)), (1, .int x1), (2, .int x2), (3, .int 0)]) C [1, 2, 3, 0] dX5_minders_1 rfl (Nat.le_of_ble_eq_true rfl) rfl ?_
  refine ww_iconst (pc := 2) C dX5_minders_2 kc_0 ?_
  refine ww_istore (pc := 3) (L' := [(0, .ref (h 0)), (1, .int x1), (2, .int x2), (3, .int 0), (4, .int 0)]) C [1, 2, 3, 4, 0] dX5_minders_3 (Nat.le_of_ble_eq_true rfl) rfl ?_
  exact t_l_X5_minders_5 C V x1 x2    oa_fu 0 0 hf
theorem dX5_doWrong_0 : decode cX5_doWrong 0 = .ok (.aload_n 0, 1) := by decide +kernel
theorem dX5_doWrong_1 : decode cX5_doWrong 1 = .ok (.iload_n 2, 1) := by decide +kernel
theorem dX5_doWrong_2 : decode cX5_doWrong 2 = .ok (.aload_n 0, 1) := by decide +kernel
theorem dX5_doWrong_3 : decode cX5_doWrong 3 = .ok (.iload_n 1, 1) := by decide +kernel
theorem dX5_doWrong_4 : decode cX5_doWrong 4 = .ok (.invokevirtual 107, 3) := by decide +kernel
theorem dX5_doWrong_7 : decode cX5_doWrong 7 = .ok (.invokevirtual 126, 3) := by decide +kernel
theorem dX5_doWrong_10 : decode cX5_doWrong 10 = .ok (.istore_n 3, 1) := by decide +kernel
theorem dX5_doWrong_11 : decode cX5_doWrong 11 = .ok (.aload_n 0, 1) := by decide +kernel
theorem dX5_doWrong_12 : decode cX5_doWrong 12 = .ok (.getfield 24, 3) := by decide +kernel
theorem dX5_doWrong_15 : decode cX5_doWrong 15 = .ok (.iload_n 1, 1) := by decide +kernel
theorem dX5_doWrong_16 : decode cX5_doWrong 16 = .ok (.dup2, 1) := by decide +kernel
theorem dX5_doWrong_17 : decode cX5_doWrong 17 = .ok (.iaload, 1) := by decide +kernel
theorem dX5_doWrong_18 : decode cX5_doWrong 18 = .ok (.aload_n 0, 1) := by decide +kernel
theorem dX5_doWrong_19 : decode cX5_doWrong 19 = .ok (.iconst 1, 1) := by decide +kernel
theorem dX5_doWrong_20 : decode cX5_doWrong 20 = .ok (.iload_n 2, 1) := by decide +kernel
theorem dX5_doWrong_21 : decode cX5_doWrong 21 = .ok (.invokevirtual 70, 3) := by decide +kernel
theorem dX5_doWrong_24 : decode cX5_doWrong 24 = .ok (.iadd, 1) := by decide +kernel
theorem dX5_doWrong_25 : decode cX5_doWrong 25 = .ok (.iastore, 1) := by decide +kernel
theorem dX5_doWrong_26 : decode cX5_doWrong 26 = .ok (.aload_n 0, 1) := by decide +kernel
theorem dX5_doWrong_27 : decode cX5_doWrong 27 = .ok (.getfield 24, 3) := by decide +kernel
theorem dX5_doWrong_30 : decode cX5_doWrong 30 = .ok (.iload_n 2, 1) := by decide +kernel
theorem dX5_doWrong_31 : decode cX5_doWrong 31 = .ok (.dup2, 1) := by decide +kernel
theorem dX5_doWrong_32 : decode cX5_doWrong 32 = .ok (.iaload, 1) := by decide +kernel
theorem dX5_doWrong_33 : decode cX5_doWrong 33 = .ok (.aload_n 0, 1) := by decide +kernel
theorem dX5_doWrong_34 : decode cX5_doWrong 34 = .ok (.iconst 2, 1) := by decide +kernel
theorem dX5_doWrong_35 : decode cX5_doWrong 35 = .ok (.iload_n 2, 1) := by decide +kernel
theorem dX5_doWrong_36 : decode cX5_doWrong 36 = .ok (.invokevirtual 70, 3) := by decide +kernel
theorem dX5_doWrong_39 : decode cX5_doWrong 39 = .ok (.isub, 1) := by decide +kernel
theorem dX5_doWrong_40 : decode cX5_doWrong 40 = .ok (.iastore, 1) := by decide +kernel
theorem dX5_doWrong_41 : decode cX5_doWrong 41 = .ok (.iconst 0, 1) := by decide +kernel
theorem dX5_doWrong_42 : decode cX5_doWrong 42 = .ok (.istore 4, 2) := by decide +kernel
theorem dX5_doWrong_44 : decode cX5_doWrong 44 = .ok (.iload 4, 2) := by decide +kernel
theorem dX5_doWrong_46 : decode cX5_doWrong 46 = .ok (.aload_n 0, 1) := by decide +kernel
theorem dX5_doWrong_47 : decode cX5_doWrong 47 = .ok (.getfield 49, 3) := by decide +kernel
theorem dX5_doWrong_50 : decode cX5_doWrong 50 = .ok (.if_icmp .ge 25, 3) := by decide +kernel
theorem dX5_doWrong_53 : decode cX5_doWrong 53 = .ok (.iload_n 3, 1) := by decide +kernel
theorem dX5_doWrong_54 : decode cX5_doWrong 54 = .ok (.iload 4, 2) := by decide +kernel
theorem dX5_doWrong_56 : decode cX5_doWrong 56 = .ok (.ishr, 1) := by decide +kernel
theorem dX5_doWrong_57 : decode cX5_doWrong 57 = .ok (.iconst 1, 1) := by decide +kernel
theorem dX5_doWrong_58 : decode cX5_doWrong 58 = .ok (.iand, 1) := by decide +kernel
theorem dX5_doWrong_59 : decode cX5_doWrong 59 = .ok (.ifCond .eq 10, 3) := by decide +kernel
theorem dX5_doWrong_62 : decode cX5_doWrong 62 = .ok (.aload_n 0, 1) := by decide +kernel
theorem dX5_doWrong_63 : decode cX5_doWrong 63 = .ok (.iload 4, 2) := by decide +kernel
theorem dX5_doWrong_65 : decode cX5_doWrong 65 = .ok (.iload_n 1, 1) := by decide +kernel
theorem dX5_doWrong_66 : decode cX5_doWrong 66 = .ok (.invokevirtual 96, 3) := by decide +kernel
theorem dX5_doWrong_69 : decode cX5_doWrong 69 = .ok (.iinc 4 1, 3) := by decide +kernel
theorem dX5_doWrong_72 : decode cX5_doWrong 72 = .ok (.goto (-28), 3) := by decide +kernel
theorem dX5_doWrong_75 : decode cX5_doWrong 75 = .ok (.return_, 1) := by decide +kernel
abbrev rm_X5_doWrong : Room := { frames := 3, cells := 0, slots := 0, locals := 68 }
theorem t_b_X5_doWrong_44 {G : oa_G} {O : oa_O} {A : Nat → Prop} {h : Nat → Nat} {res : oa_I2} (C : oa_C G cX5_doWrong 5 RX5 none rm_X5_doWrong O A) (x1 : Int32) (x2 : Int32) (x3 : Int32)   (k44 : oa_I2 → Int32 → Option (oa_I2))  (hk44 : ∀ (b_V : oa_I2) (b_x4 : Int32), k44 b_V b_x4 = some res → ww G 5 O A (oa_Q G O A (0, 0) none (fun W1 => W1 = wd_V O h res)) (0, 0) 44 [(0, .ref (h 0)), (1, .int x1), (3, .int x3), (4, .int b_x4)] [] (wd_V O h b_V)) (V : oa_I2) (x4 : Int32) (hf : b_X5_doWrong_44 x1 x2 x3 k44 V x4 = some res) : ww G 5 O A (oa_Q G O A (0, 0) none (fun W1 => W1 = wd_V O h res)) (0, 0) 44 [(0, .ref (h 0)), (1, .int x1), (3, .int x3), (4, .int x4)] [] (wd_V O h V) := by
  delta b_X5_doWrong_44 at hf
  refine ww_iload (pc := 44) (i := 4) C 3 dX5_doWrong_44 rfl ?_
  refine ww_aload_n (pc := 46) (i := 0) C 0 dX5_doWrong_46 rfl rfl ?_
  refine ww_get (pc := 47) C fl_X5_49 0 rfl rfl dX5_doWrong_47 ?_
  refine ww_icmp_ge (pc := 50) (tgt := 75) C dX5_doWrong_50 (by decide) (fun c25 => ?_) (fun c25 => ?_)
  · have hf := oa_ifp c25 hf
    obtain rfl := Option.some.inj hf
    exact ww_vret (pc := 75) C rfl dX5_doWrong_75
  · have hf := oa_ifn c25 hf
    refine ww_iload_n (pc := 53) (i := 3) C 2 dX5_doWrong_53 rfl rfl ?_
    refine ww_iload (pc := 54) (i := 4) C 3 dX5_doWrong_54 rfl ?_
    refine ww_ishr (pc := 56) C dX5_doWrong_56 ?_
    refine ww_iconst (pc := 57) C dX5_doWrong_57 kc_1 ?_
    refine ww_iand (pc := 58) C dX5_doWrong_58 ?_
    refine ww_if_eq (pc := 59) (tgt := 69) C dX5_doWrong_59 (by decide) (fun c26 => ?_) (fun c26 => ?_)
    · have hf := oa_ifp c26 hf
      refine ww_iinc (pc := 69) (v := (x4 + 1)) (L' := [(0, .ref (h 0)), (1, .int x1), (3, .int x3), (4, .int (x4 + 1))]) C 3 [1, 2, 3, 0] dX5_doWrong_69 rfl (ki_1 _) (Nat.le_of_ble_eq_true rfl) rfl ?_
      refine ww_goto (pc := 72) (tgt := 44) C dX5_doWrong_72 (by decide) ?_
      exact hk44 V (x4 + 1) hf
    · have hf := oa_ifn c26 hf
      refine ww_aload_n (pc := 62) (i := 0) C 0 dX5_doWrong_62 rfl rfl ?_
      refine ww_iload (pc := 63) (i := 4) C 3 dX5_doWrong_63 rfl ?_
      refine ww_iload_n (pc := 65) (i := 1) C 1 dX5_doWrong_65 rfl rfl ?_
      obtain ⟨V27, e28, hf⟩ := oa_bind hf
      refine ww_callV (pc := 66) (As := [.int x4, .int x1]) (rest := []) (wd := wd_V O h V27) (ws' := wd_V O h V27) (rv := none) C hY_X5_start hV_X5_start lk_X5_96 (m_X5_start _ O h V x4 x1 _ e28) [0, 1, 2, 3, 4, 5] 0 rfl rfl rfl rfl rfl rfl (fun _ h => h) ⟨rfl, rfl⟩ ⟨Nat.zero_le _, Nat.zero_le _⟩ ⟨Nat.le_of_ble_eq_true rfl, Nat.le_of_ble_eq_true rfl⟩ rfl (Nat.le_of_ble_eq_true rfl) rfl rfl dX5_doWrong_66 ?_
      refine ww_iinc (pc := 69) (v := (x4 + 1)) (L' := [(0, .ref (h 0)), (1, .int x1), (3, .int x3), (4, .int (x4 + 1))]) C 3 [1, 2, 3, 0] dX5_doWrong_69 rfl (ki_1 _) (Nat.le_of_ble_eq_true rfl) rfl ?_
      refine ww_goto (pc := 72) (tgt := 44) C dX5_doWrong_72 (by decide) ?_
      exact hk44 V27 (x4 + 1) hf
theorem t_l_X5_doWrong_44 {G : oa_G} {O : oa_O} {A : Nat → Prop} {h : Nat → Nat} {res : oa_I2} (C : oa_C G cX5_doWrong 5 RX5 none rm_X5_doWrong O A) (x1 : Int32) (x2 : Int32) (x3 : Int32)   : ∀ (n : Nat) (V : oa_I2) (x4 : Int32), l_X5_doWrong_44 x1 x2 x3 n V x4 = some res → ww G 5 O A (oa_Q G O A (0, 0) none (fun W1 => W1 = wd_V O h res)) (0, 0) 44 [(0, .ref (h 0)), (1, .int x1), (3, .int x3), (4, .int x4)] [] (wd_V O h V) := by
  intro n
  induction n with
  | zero => intro V x4 hf; exact absurd (show (none : Option (oa_I2)) = some res from hf) (fun h => nomatch h)
  | succ n ih =>
    intro V x4 hf
    exact t_b_X5_doWrong_44 C x1 x2 x3 (fun V x4 => l_X5_doWrong_44 x1 x2 x3 n V x4)  (fun V x4 h => ih V x4 h) V x4 hf
theorem m_X5_doWrong (l : Launch) (O : oa_O) (h : Nat → Nat) (V : oa_I2) (x1 : Int32) (x2 : Int32) (res : oa_I2) (hf : f_X5_doWrong V x1 x2 = some res) : oa_M l yX5_doWrong cX5_doWrong 5 none rm_X5_doWrong O [.ref (h 0), .int x1, .int x2] (wd_V O h V) none (fun W1 => W1 = wd_V O h res) := by
  refine oa_Mof (by decide) (Nat.le_of_ble_eq_true rfl) (fun G A hl C => ?_)
  subst hl
  have C : oa_C G cX5_doWrong 5 RX5 none rm_X5_doWrong O A := C
  have hf : f_X5_doWrong V x1 x2 = some res := hf
  delta f_X5_doWrong at hf
  show ww G 5 O A (oa_Q G O A (0, 0) none (fun W1 => W1 = wd_V O h res)) (0, 0) 0 [(0, .ref (h 0)), (1, .int x1), (2, .int x2)] [] (wd_V O h V)
  refine ww_aload_n (pc := 0) (i := 0) C 0 dX5_doWrong_0 rfl rfl ?_
  refine ww_iload_n (pc := 1) (i := 2) C 2 dX5_doWrong_1 rfl rfl ?_
  refine ww_aload_n (pc := 2) (i := 0) C 0 dX5_doWrong_2 rfl rfl ?_
  refine ww_iload_n (pc := 3) (i := 1) C 1 dX5_doWrong_3 rfl rfl ?_
  obtain ⟨y1, e2, hf⟩ := oa_bind hf
  refine ww_callV (pc := 4) (As := [.int x1]) (rest := [.int x2, .ref (h 0)]) (wd := wd_V O h V) (ws' := wd_V O h V) (rv := (some (.int y1))) C hY_X5_able hV_X5_able lk_X5_107 (m_X5_able _ O h V x1 _ e2) [0, 1, 2, 3, 4, 5] 0 rfl rfl rfl rfl rfl (oa_putS _ _ _ rfl) (fun _ h => h) ⟨rfl, rfl⟩ ⟨Nat.zero_le _, Nat.zero_le _⟩ ⟨Nat.le_of_ble_eq_true rfl, Nat.le_of_ble_eq_true rfl⟩ rfl (Nat.le_of_ble_eq_true rfl) rfl rfl dX5_doWrong_4 ?_
  obtain ⟨y4, e5, hf⟩ := oa_bind hf
  refine ww_callV (pc := 7) (As := [.int x2, .int y1]) (rest := []) (wd := wd_V O h V) (ws' := wd_V O h V) (rv := (some (.int y4))) C hY_X5_minders hV_X5_minders lk_X5_126 (m_X5_minders _ O h V x2 y1 _ e5) [0, 1, 2, 3, 4, 5] 0 rfl rfl rfl rfl rfl (oa_putS _ _ _ rfl) (fun _ h => h) ⟨rfl, rfl⟩ ⟨Nat.zero_le _, Nat.zero_le _⟩ ⟨Nat.le_of_ble_eq_true rfl, Nat.le_of_ble_eq_true rfl⟩ rfl (Nat.le_of_ble_eq_true rfl) rfl rfl dX5_doWrong_7 ?_
  refine ww_istore_n (pc := 10) (L' := [(0, .ref (h 0)), (1, .int x1), (2, .int x2), (3, .int y4)]) C [1, 2, 3, 0] dX5_doWrong_10 rfl (Nat.le_of_ble_eq_true rfl) rfl ?_
  refine ww_aload_n (pc := 11) (i := 0) C 0 dX5_doWrong_11 rfl rfl ?_
  refine ww_get (pc := 12) C fl_X5_24 0 rfl rfl dX5_doWrong_12 ?_
  refine ww_iload_n (pc := 15) (i := 1) C 1 dX5_doWrong_15 rfl rfl ?_
  refine ww_dup2 (pc := 16) C dX5_doWrong_16 rfl rfl ?_
  obtain ⟨y7, e8, hf⟩ := oa_bind hf
  refine ww_iald (pc := 17) C 5 rfl e8 dX5_doWrong_17 ?_
  refine ww_aload_n (pc := 18) (i := 0) C 0 dX5_doWrong_18 rfl rfl ?_
  refine ww_iconst (pc := 19) C dX5_doWrong_19 kc_1 ?_
  refine ww_iload_n (pc := 20) (i := 2) C 2 dX5_doWrong_20 rfl rfl ?_
  obtain ⟨y9, e10, hf⟩ := oa_bind hf
  refine ww_callV (pc := 21) (As := [.int 1, .int x2]) (rest := [.int y7, .int x1, .ref (h 5)]) (wd := wd_V O h V) (ws' := wd_V O h V) (rv := (some (.int y9))) C hY_X5_trait hV_X5_trait lk_X5_70 (m_X5_trait _ O h V 1 x2 _ e10) [0, 1, 2, 3, 4, 5] 0 rfl rfl rfl rfl rfl (oa_putS _ _ _ rfl) (fun _ h => h) ⟨rfl, rfl⟩ ⟨Nat.zero_le _, Nat.zero_le _⟩ ⟨Nat.le_of_ble_eq_true rfl, Nat.le_of_ble_eq_true rfl⟩ rfl (Nat.le_of_ble_eq_true rfl) rfl rfl dX5_doWrong_21 ?_
  refine ww_iadd (pc := 24) C dX5_doWrong_24 ?_
  obtain ⟨g12, e13, hf⟩ := oa_bind hf
  obtain ⟨V14, e15, hf⟩ := oa_letE hf
  refine ww_iast (pc := 25) C (fun Z => wd_V O h Z) 5 rfl e13 e15 rfl dX5_doWrong_25 ?_
  refine ww_aload_n (pc := 26) (i := 0) C 0 dX5_doWrong_26 rfl rfl ?_
  refine ww_get (pc := 27) C fl_X5_24 0 rfl rfl dX5_doWrong_27 ?_
  refine ww_iload_n (pc := 30) (i := 2) C 2 dX5_doWrong_30 rfl rfl ?_
  refine ww_dup2 (pc := 31) C dX5_doWrong_31 rfl rfl ?_
  obtain ⟨y16, e17, hf⟩ := oa_bind hf
  refine ww_iald (pc := 32) C 5 rfl e17 dX5_doWrong_32 ?_
  refine ww_aload_n (pc := 33) (i := 0) C 0 dX5_doWrong_33 rfl rfl ?_
  refine ww_iconst (pc := 34) C dX5_doWrong_34 kc_2 ?_
  refine ww_iload_n (pc := 35) (i := 2) C 2 dX5_doWrong_35 rfl rfl ?_
  obtain ⟨y18, e19, hf⟩ := oa_bind hf
  refine ww_callV (pc := 36) (As := [.int 2, .int x2]) (rest := [.int y16, .int x2, .ref (h 5)]) (wd := wd_V O h V14) (ws' := wd_V O h V14) (rv := (some (.int y18))) C hY_X5_trait hV_X5_trait lk_X5_70 (m_X5_trait _ O h V14 2 x2 _ e19) [0, 1, 2, 3, 4, 5] 0 rfl rfl rfl rfl rfl (oa_putS _ _ _ rfl) (fun _ h => h) ⟨rfl, rfl⟩ ⟨Nat.zero_le _, Nat.zero_le _⟩ ⟨Nat.le_of_ble_eq_true rfl, Nat.le_of_ble_eq_true rfl⟩ rfl (Nat.le_of_ble_eq_true rfl) rfl rfl dX5_doWrong_36 ?_
  refine ww_isub (pc := 39) C dX5_doWrong_39 ?_
  obtain ⟨g21, e22, hf⟩ := oa_bind hf
  obtain ⟨V23, e24, hf⟩ := oa_letE hf
  refine ww_iast (pc := 40) C (fun Z => wd_V O h Z) 5 rfl e22 e24 rfl dX5_doWrong_40 ?_
  refine ww_iconst (pc := 41) C dX5_doWrong_41 kc_0 ?_
  refine ww_istore (pc := 42) (L' := [(0, .ref (h 0)), (1, .int x1), (2, .int x2), (3, .int y4), (4, .int 0)]) C [1, 2, 3, 4, 0] dX5_doWrong_42 (Nat.le_of_ble_eq_true rfl) rfl ?_
  refine ww_sub C [0, 1, 3, 4] rfl ?_
  exact t_l_X5_doWrong_44 C x1 x2 y4   oa_fu V23 0 hf
theorem dX5_stop_0 : decode cX5_stop 0 = .ok (.aload_n 0, 1) := by decide +kernel
theorem dX5_stop_1 : decode cX5_stop 1 = .ok (.getfield 18, 3) := by decide +kernel
theorem dX5_stop_4 : decode cX5_stop 4 = .ok (.iload_n 1, 1) := by decide +kernel
theorem dX5_stop_5 : decode cX5_stop 5 = .ok (.dup2, 1) := by decide +kernel
theorem dX5_stop_6 : decode cX5_stop 6 = .ok (.iaload, 1) := by decide +kernel
theorem dX5_stop_7 : decode cX5_stop 7 = .ok (.iconst 1, 1) := by decide +kernel
theorem dX5_stop_8 : decode cX5_stop 8 = .ok (.iload_n 2, 1) := by decide +kernel
theorem dX5_stop_9 : decode cX5_stop 9 = .ok (.ishl, 1) := by decide +kernel
theorem dX5_stop_10 : decode cX5_stop 10 = .ok (.iconst (-1), 1) := by decide +kernel
theorem dX5_stop_11 : decode cX5_stop 11 = .ok (.ixor, 1) := by decide +kernel
theorem dX5_stop_12 : decode cX5_stop 12 = .ok (.iand, 1) := by decide +kernel
theorem dX5_stop_13 : decode cX5_stop 13 = .ok (.iastore, 1) := by decide +kernel
theorem dX5_stop_14 : decode cX5_stop 14 = .ok (.return_, 1) := by decide +kernel
abbrev rm_X5_stop : Room := { frames := 0, cells := 0, slots := 0, locals := 0 }
theorem m_X5_stop (l : Launch) (O : oa_O) (h : Nat → Nat) (V : oa_I2) (x1 : Int32) (x2 : Int32) (res : oa_I2) (hf : f_X5_stop V x1 x2 = some res) : oa_M l yX5_stop cX5_stop 3 none rm_X5_stop O [.ref (h 0), .int x1, .int x2] (wd_V O h V) none (fun W1 => W1 = wd_V O h res) := by
  refine oa_Mof (by decide) (Nat.le_of_ble_eq_true rfl) (fun G A hl C => ?_)
  subst hl
  have C : oa_C G cX5_stop 3 RX5 none rm_X5_stop O A := C
  have hf : f_X5_stop V x1 x2 = some res := hf
  delta f_X5_stop at hf
  show ww G 3 O A (oa_Q G O A (0, 0) none (fun W1 => W1 = wd_V O h res)) (0, 0) 0 [(0, .ref (h 0)), (1, .int x1), (2, .int x2)] [] (wd_V O h V)
  refine ww_aload_n (pc := 0) (i := 0) C 0 dX5_stop_0 rfl rfl ?_
  refine ww_get (pc := 1) C fl_X5_18 0 rfl rfl dX5_stop_1 ?_
  refine ww_iload_n (pc := 4) (i := 1) C 1 dX5_stop_4 rfl rfl ?_
  refine ww_dup2 (pc := 5) C dX5_stop_5 rfl rfl ?_
  obtain ⟨y1, e2, hf⟩ := oa_bind hf
  refine ww_iald (pc := 6) C 3 rfl e2 dX5_stop_6 ?_
  refine ww_iconst (pc := 7) C dX5_stop_7 kc_1 ?_
  refine ww_iload_n (pc := 8) (i := 2) C 2 dX5_stop_8 rfl rfl ?_
  refine ww_ishl (pc := 9) C dX5_stop_9 ?_
  refine ww_iconst (pc := 10) C dX5_stop_10 kc_m1 ?_
  refine ww_ixor (pc := 11) C dX5_stop_11 ?_
  refine ww_iand (pc := 12) C dX5_stop_12 ?_
  obtain ⟨g3, e4, hf⟩ := oa_bind hf
  obtain ⟨V5, e6, hf⟩ := oa_letE hf
  refine ww_iast (pc := 13) C (fun Z => wd_V O h Z) 3 rfl e4 e6 rfl dX5_stop_13 ?_
  obtain rfl := Option.some.inj hf
  exact ww_vret (pc := 14) C rfl dX5_stop_14
theorem dX5_endOne_0 : decode cX5_endOne 0 = .ok (.aload_n 0, 1) := by decide +kernel
theorem dX5_endOne_1 : decode cX5_endOne 1 = .ok (.iload_n 1, 1) := by decide +kernel
theorem dX5_endOne_2 : decode cX5_endOne 2 = .ok (.iload_n 2, 1) := by decide +kernel
theorem dX5_endOne_3 : decode cX5_endOne 3 = .ok (.invokevirtual 153, 3) := by decide +kernel
theorem dX5_endOne_6 : decode cX5_endOne 6 = .ok (.istore_n 3, 1) := by decide +kernel
theorem dX5_endOne_7 : decode cX5_endOne 7 = .ok (.aload_n 0, 1) := by decide +kernel
theorem dX5_endOne_8 : decode cX5_endOne 8 = .ok (.getfield 9, 3) := by decide +kernel
theorem dX5_endOne_11 : decode cX5_endOne 11 = .ok (.iconst 1, 1) := by decide +kernel
theorem dX5_endOne_12 : decode cX5_endOne 12 = .ok (.iaload, 1) := by decide +kernel
theorem dX5_endOne_13 : decode cX5_endOne 13 = .ok (.iload_n 3, 1) := by decide +kernel
theorem dX5_endOne_14 : decode cX5_endOne 14 = .ok (.isub, 1) := by decide +kernel
theorem dX5_endOne_15 : decode cX5_endOne 15 = .ok (.istore 4, 2) := by decide +kernel
theorem dX5_endOne_17 : decode cX5_endOne 17 = .ok (.aload_n 0, 1) := by decide +kernel
theorem dX5_endOne_18 : decode cX5_endOne 18 = .ok (.iconst 4, 1) := by decide +kernel
theorem dX5_endOne_19 : decode cX5_endOne 19 = .ok (.iload_n 1, 1) := by decide +kernel
theorem dX5_endOne_20 : decode cX5_endOne 20 = .ok (.invokevirtual 70, 3) := by decide +kernel
theorem dX5_endOne_23 : decode cX5_endOne 23 = .ok (.istore 5, 2) := by decide +kernel
theorem dX5_endOne_25 : decode cX5_endOne 25 = .ok (.iload 4, 2) := by decide +kernel
theorem dX5_endOne_27 : decode cX5_endOne 27 = .ok (.ifCond .gt 12, 3) := by decide +kernel
theorem dX5_endOne_30 : decode cX5_endOne 30 = .ok (.aload_n 0, 1) := by decide +kernel
theorem dX5_endOne_31 : decode cX5_endOne 31 = .ok (.iload_n 1, 1) := by decide +kernel
theorem dX5_endOne_32 : decode cX5_endOne 32 = .ok (.iload_n 2, 1) := by decide +kernel
theorem dX5_endOne_33 : decode cX5_endOne 33 = .ok (.invokevirtual 156, 3) := by decide +kernel
theorem dX5_endOne_36 : decode cX5_endOne 36 = .ok (.goto 55, 3) := by decide +kernel
theorem dX5_endOne_39 : decode cX5_endOne 39 = .ok (.iload_n 3, 1) := by decide +kernel
theorem dX5_endOne_40 : decode cX5_endOne 40 = .ok (.aload_n 0, 1) := by decide +kernel
theorem dX5_endOne_41 : decode cX5_endOne 41 = .ok (.iconst 5, 1) := by decide +kernel
theorem dX5_endOne_42 : decode cX5_endOne 42 = .ok (.iload_n 1, 1) := by decide +kernel
theorem dX5_endOne_43 : decode cX5_endOne 43 = .ok (.invokevirtual 70, 3) := by decide +kernel
theorem dX5_endOne_46 : decode cX5_endOne 46 = .ok (.if_icmp .lt 45, 3) := by decide +kernel
theorem dX5_endOne_49 : decode cX5_endOne 49 = .ok (.iload 5, 2) := by decide +kernel
theorem dX5_endOne_51 : decode cX5_endOne 51 = .ok (.aload_n 0, 1) := by decide +kernel
theorem dX5_endOne_52 : decode cX5_endOne 52 = .ok (.iconst 3, 1) := by decide +kernel
theorem dX5_endOne_53 : decode cX5_endOne 53 = .ok (.iload_n 1, 1) := by decide +kernel
theorem dX5_endOne_54 : decode cX5_endOne 54 = .ok (.invokevirtual 70, 3) := by decide +kernel
theorem dX5_endOne_57 : decode cX5_endOne 57 = .ok (.iload 4, 2) := by decide +kernel
theorem dX5_endOne_59 : decode cX5_endOne 59 = .ok (.imul, 1) := by decide +kernel
theorem dX5_endOne_60 : decode cX5_endOne 60 = .ok (.if_icmp .ge 31, 3) := by decide +kernel
theorem dX5_endOne_63 : decode cX5_endOne 63 = .ok (.aload_n 0, 1) := by decide +kernel
theorem dX5_endOne_64 : decode cX5_endOne 64 = .ok (.getfield 24, 3) := by decide +kernel
theorem dX5_endOne_67 : decode cX5_endOne 67 = .ok (.iload_n 2, 1) := by decide +kernel
theorem dX5_endOne_68 : decode cX5_endOne 68 = .ok (.dup2, 1) := by decide +kernel
theorem dX5_endOne_69 : decode cX5_endOne 69 = .ok (.iaload, 1) := by decide +kernel
theorem dX5_endOne_70 : decode cX5_endOne 70 = .ok (.iload 5, 2) := by decide +kernel
theorem dX5_endOne_72 : decode cX5_endOne 72 = .ok (.isub, 1) := by decide +kernel
theorem dX5_endOne_73 : decode cX5_endOne 73 = .ok (.iastore, 1) := by decide +kernel
theorem dX5_endOne_74 : decode cX5_endOne 74 = .ok (.aload_n 0, 1) := by decide +kernel
theorem dX5_endOne_75 : decode cX5_endOne 75 = .ok (.getfield 24, 3) := by decide +kernel
theorem dX5_endOne_78 : decode cX5_endOne 78 = .ok (.iload_n 1, 1) := by decide +kernel
theorem dX5_endOne_79 : decode cX5_endOne 79 = .ok (.dup2, 1) := by decide +kernel
theorem dX5_endOne_80 : decode cX5_endOne 80 = .ok (.iaload, 1) := by decide +kernel
theorem dX5_endOne_81 : decode cX5_endOne 81 = .ok (.iload 5, 2) := by decide +kernel
theorem dX5_endOne_83 : decode cX5_endOne 83 = .ok (.iadd, 1) := by decide +kernel
theorem dX5_endOne_84 : decode cX5_endOne 84 = .ok (.iastore, 1) := by decide +kernel
theorem dX5_endOne_85 : decode cX5_endOne 85 = .ok (.aload_n 0, 1) := by decide +kernel
theorem dX5_endOne_86 : decode cX5_endOne 86 = .ok (.iload_n 1, 1) := by decide +kernel
theorem dX5_endOne_87 : decode cX5_endOne 87 = .ok (.iload_n 2, 1) := by decide +kernel
theorem dX5_endOne_88 : decode cX5_endOne 88 = .ok (.invokevirtual 156, 3) := by decide +kernel
theorem dX5_endOne_91 : decode cX5_endOne 91 = .ok (.return_, 1) := by decide +kernel
abbrev rm_X5_endOne : Room := { frames := 1, cells := 0, slots := 0, locals := 22 }
theorem m_X5_endOne (l : Launch) (O : oa_O) (h : Nat → Nat) (V : oa_I2) (x1 : Int32) (x2 : Int32) (res : oa_I2) (hf : f_X5_endOne V x1 x2 = some res) : oa_M l yX5_endOne cX5_endOne 6 none rm_X5_endOne O [.ref (h 0), .int x1, .int x2] (wd_V O h V) none (fun W1 => W1 = wd_V O h res) := by
  refine oa_Mof (by decide) (Nat.le_of_ble_eq_true rfl) (fun G A hl C => ?_)
  subst hl
  have C : oa_C G cX5_endOne 6 RX5 none rm_X5_endOne O A := C
  have hf : f_X5_endOne V x1 x2 = some res := hf
  delta f_X5_endOne at hf
  show ww G 6 O A (oa_Q G O A (0, 0) none (fun W1 => W1 = wd_V O h res)) (0, 0) 0 [(0, .ref (h 0)), (1, .int x1), (2, .int x2)] [] (wd_V O h V)
  refine ww_aload_n (pc := 0) (i := 0) C 0 dX5_endOne_0 rfl rfl ?_
  refine ww_iload_n (pc := 1) (i := 1) C 1 dX5_endOne_1 rfl rfl ?_
  refine ww_iload_n (pc := 2) (i := 2) C 2 dX5_endOne_2 rfl rfl ?_
  obtain ⟨y1, e2, hf⟩ := oa_bind hf
  refine ww_callV (pc := 3) (As := [.int x1, .int x2]) (rest := []) (wd := wd_V O h V) (ws' := wd_V O h V) (rv := (some (.int y1))) C hY_X5_ageOf hV_X5_ageOf lk_X5_153 (m_X5_ageOf _ O h V x1 x2 _ e2) [0, 1, 2, 3, 4, 5] 0 rfl rfl rfl rfl rfl (oa_putS _ _ _ rfl) (fun _ h => h) ⟨rfl, rfl⟩ ⟨Nat.zero_le _, Nat.zero_le _⟩ ⟨Nat.le_of_ble_eq_true rfl, Nat.le_of_ble_eq_true rfl⟩ rfl (Nat.le_of_ble_eq_true rfl) rfl rfl dX5_endOne_3 ?_
  refine ww_istore_n (pc := 6) (L' := [(0, .ref (h 0)), (1, .int x1), (2, .int x2), (3, .int y1)]) C [1, 2, 3, 0] dX5_endOne_6 rfl (Nat.le_of_ble_eq_true rfl) rfl ?_
  refine ww_aload_n (pc := 7) (i := 0) C 0 dX5_endOne_7 rfl rfl ?_
  refine ww_get (pc := 8) C fl_X5_9 0 rfl rfl dX5_endOne_8 ?_
  refine ww_iconst (pc := 11) C dX5_endOne_11 kc_1 ?_
  obtain ⟨y4, e5, hf⟩ := oa_bind hf
  refine ww_iald (pc := 12) C 1 rfl e5 dX5_endOne_12 ?_
  refine ww_iload_n (pc := 13) (i := 3) C 3 dX5_endOne_13 rfl rfl ?_
  refine ww_isub (pc := 14) C dX5_endOne_14 ?_
  obtain ⟨y6, e7, hf⟩ := oa_letE hf
  refine ww_topi C e7 ?_
  refine ww_istore (pc := 15) (L' := [(0, .ref (h 0)), (1, .int x1), (2, .int x2), (3, .int y1), (4, .int y6)]) C [1, 2, 3, 4, 0] dX5_endOne_15 (Nat.le_of_ble_eq_true rfl) rfl ?_
  refine ww_aload_n (pc := 17) (i := 0) C 0 dX5_endOne_17 rfl rfl ?_
  refine ww_iconst (pc := 18) C dX5_endOne_18 kc_4 ?_
  refine ww_iload_n (pc := 19) (i := 1) C 1 dX5_endOne_19 rfl rfl ?_
  obtain ⟨y8, e9, hf⟩ := oa_bind hf
  refine ww_callV (pc := 20) (As := [.int 4, .int x1]) (rest := []) (wd := wd_V O h V) (ws' := wd_V O h V) (rv := (some (.int y8))) C hY_X5_trait hV_X5_trait lk_X5_70 (m_X5_trait _ O h V 4 x1 _ e9) [0, 1, 2, 3, 4, 5] 0 rfl rfl rfl rfl rfl (oa_putS _ _ _ rfl) (fun _ h => h) ⟨rfl, rfl⟩ ⟨Nat.zero_le _, Nat.zero_le _⟩ ⟨Nat.le_of_ble_eq_true rfl, Nat.le_of_ble_eq_true rfl⟩ rfl (Nat.le_of_ble_eq_true rfl) rfl rfl dX5_endOne_20 ?_
  refine ww_istore (pc := 23) (L' := [(0, .ref (h 0)), (1, .int x1), (2, .int x2), (3, .int y1), (4, .int y6), (5, .int y8)]) C [1, 2, 3, 4, 5, 0] dX5_endOne_23 (Nat.le_of_ble_eq_true rfl) rfl ?_
  refine ww_iload (pc := 25) (i := 4) C 4 dX5_endOne_25 rfl ?_
  refine ww_if_gt (pc := 27) (tgt := 39) C dX5_endOne_27 (by decide) (fun c11 => ?_) (fun c11 => ?_)
  · have hf := oa_ifp c11 hf
    refine ww_iload_n (pc := 39) (i := 3) C 3 dX5_endOne_39 rfl rfl ?_
    refine ww_aload_n (pc := 40) (i := 0) C 0 dX5_endOne_40 rfl rfl ?_
    refine ww_iconst (pc := 41) C dX5_endOne_41 kc_5 ?_
    refine ww_iload_n (pc := 42) (i := 1) C 1 dX5_endOne_42 rfl rfl ?_
    obtain ⟨y12, e13, hf⟩ := oa_bind hf
    refine ww_callV (pc := 43) (As := [.int 5, .int x1]) (rest := [.int y1]) (wd := wd_V O h V) (ws' := wd_V O h V) (rv := (some (.int y12))) C hY_X5_trait hV_X5_trait lk_X5_70 (m_X5_trait _ O h V 5 x1 _ e13) [0, 1, 2, 3, 4, 5] 0 rfl rfl rfl rfl rfl (oa_putS _ _ _ rfl) (fun _ h => h) ⟨rfl, rfl⟩ ⟨Nat.zero_le _, Nat.zero_le _⟩ ⟨Nat.le_of_ble_eq_true rfl, Nat.le_of_ble_eq_true rfl⟩ rfl (Nat.le_of_ble_eq_true rfl) rfl rfl dX5_endOne_43 ?_
    refine ww_icmp_lt (pc := 46) (tgt := 91) C dX5_endOne_46 (by decide) (fun c15 => ?_) (fun c15 => ?_)
    · have hf := oa_ifp c15 hf
      obtain rfl := Option.some.inj hf
      exact ww_vret (pc := 91) C rfl dX5_endOne_91
    · have hf := oa_ifn c15 hf
      refine ww_iload (pc := 49) (i := 5) C 5 dX5_endOne_49 rfl ?_
      refine ww_aload_n (pc := 51) (i := 0) C 0 dX5_endOne_51 rfl rfl ?_
      refine ww_iconst (pc := 52) C dX5_endOne_52 kc_3 ?_
      refine ww_iload_n (pc := 53) (i := 1) C 1 dX5_endOne_53 rfl rfl ?_
      obtain ⟨y16, e17, hf⟩ := oa_bind hf
      refine ww_callV (pc := 54) (As := [.int 3, .int x1]) (rest := [.int y8]) (wd := wd_V O h V) (ws' := wd_V O h V) (rv := (some (.int y16))) C hY_X5_trait hV_X5_trait lk_X5_70 (m_X5_trait _ O h V 3 x1 _ e17) [0, 1, 2, 3, 4, 5] 0 rfl rfl rfl rfl rfl (oa_putS _ _ _ rfl) (fun _ h => h) ⟨rfl, rfl⟩ ⟨Nat.zero_le _, Nat.zero_le _⟩ ⟨Nat.le_of_ble_eq_true rfl, Nat.le_of_ble_eq_true rfl⟩ rfl (Nat.le_of_ble_eq_true rfl) rfl rfl dX5_endOne_54 ?_
      refine ww_iload (pc := 57) (i := 4) C 4 dX5_endOne_57 rfl ?_
      refine ww_imul (pc := 59) C dX5_endOne_59 ?_
      refine ww_icmp_ge (pc := 60) (tgt := 91) C dX5_endOne_60 (by decide) (fun c19 => ?_) (fun c19 => ?_)
      · have hf := oa_ifp c19 hf
        obtain rfl := Option.some.inj hf
        exact ww_vret (pc := 91) C rfl dX5_endOne_91
      · have hf := oa_ifn c19 hf
        refine ww_aload_n (pc := 63) (i := 0) C 0 dX5_endOne_63 rfl rfl ?_
        refine ww_get (pc := 64) C fl_X5_24 0 rfl rfl dX5_endOne_64 ?_
        refine ww_iload_n (pc := 67) (i := 2) C 2 dX5_endOne_67 rfl rfl ?_
        refine ww_dup2 (pc := 68) C dX5_endOne_68 rfl rfl ?_
        obtain ⟨y20, e21, hf⟩ := oa_bind hf
        refine ww_iald (pc := 69) C 5 rfl e21 dX5_endOne_69 ?_
        refine ww_iload (pc := 70) (i := 5) C 5 dX5_endOne_70 rfl ?_
        refine ww_isub (pc := 72) C dX5_endOne_72 ?_
        obtain ⟨g22, e23, hf⟩ := oa_bind hf
        obtain ⟨V24, e25, hf⟩ := oa_letE hf
        refine ww_iast (pc := 73) C (fun Z => wd_V O h Z) 5 rfl e23 e25 rfl dX5_endOne_73 ?_
        refine ww_aload_n (pc := 74) (i := 0) C 0 dX5_endOne_74 rfl rfl ?_
        refine ww_get (pc := 75) C fl_X5_24 0 rfl rfl dX5_endOne_75 ?_
        refine ww_iload_n (pc := 78) (i := 1) C 1 dX5_endOne_78 rfl rfl ?_
        refine ww_dup2 (pc := 79) C dX5_endOne_79 rfl rfl ?_
        obtain ⟨y26, e27, hf⟩ := oa_bind hf
        refine ww_iald (pc := 80) C 5 rfl e27 dX5_endOne_80 ?_
        refine ww_iload (pc := 81) (i := 5) C 5 dX5_endOne_81 rfl ?_
        refine ww_iadd (pc := 83) C dX5_endOne_83 ?_
        obtain ⟨g28, e29, hf⟩ := oa_bind hf
        obtain ⟨V30, e31, hf⟩ := oa_letE hf
        refine ww_iast (pc := 84) C (fun Z => wd_V O h Z) 5 rfl e29 e31 rfl dX5_endOne_84 ?_
        refine ww_aload_n (pc := 85) (i := 0) C 0 dX5_endOne_85 rfl rfl ?_
        refine ww_iload_n (pc := 86) (i := 1) C 1 dX5_endOne_86 rfl rfl ?_
        refine ww_iload_n (pc := 87) (i := 2) C 2 dX5_endOne_87 rfl rfl ?_
        obtain ⟨V32, e33, hf⟩ := oa_bind hf
        refine ww_callV (pc := 88) (As := [.int x1, .int x2]) (rest := []) (wd := wd_V O h V32) (ws' := wd_V O h V32) (rv := none) C hY_X5_stop hV_X5_stop lk_X5_156 (m_X5_stop _ O h V30 x1 x2 _ e33) [0, 1, 2, 3, 4, 5] 0 rfl rfl rfl rfl rfl rfl (fun _ h => h) ⟨rfl, rfl⟩ ⟨Nat.zero_le _, Nat.zero_le _⟩ ⟨Nat.le_of_ble_eq_true rfl, Nat.le_of_ble_eq_true rfl⟩ rfl (Nat.le_of_ble_eq_true rfl) rfl rfl dX5_endOne_88 ?_
        obtain rfl := Option.some.inj hf
        exact ww_vret (pc := 91) C rfl dX5_endOne_91
  · have hf := oa_ifn c11 hf
    refine ww_aload_n (pc := 30) (i := 0) C 0 dX5_endOne_30 rfl rfl ?_
    refine ww_iload_n (pc := 31) (i := 1) C 1 dX5_endOne_31 rfl rfl ?_
    refine ww_iload_n (pc := 32) (i := 2) C 2 dX5_endOne_32 rfl rfl ?_
    obtain ⟨V35, e36, hf⟩ := oa_bind hf
    refine ww_callV (pc := 33) (As := [.int x1, .int x2]) (rest := []) (wd := wd_V O h V35) (ws' := wd_V O h V35) (rv := none) C hY_X5_stop hV_X5_stop lk_X5_156 (m_X5_stop _ O h V x1 x2 _ e36) [0, 1, 2, 3, 4, 5] 0 rfl rfl rfl rfl rfl rfl (fun _ h => h) ⟨rfl, rfl⟩ ⟨Nat.zero_le _, Nat.zero_le _⟩ ⟨Nat.le_of_ble_eq_true rfl, Nat.le_of_ble_eq_true rfl⟩ rfl (Nat.le_of_ble_eq_true rfl) rfl rfl dX5_endOne_33 ?_
    refine ww_goto (pc := 36) (tgt := 91) C dX5_endOne_36 (by decide) ?_
    obtain rfl := Option.some.inj hf
    exact ww_vret (pc := 91) C rfl dX5_endOne_91
theorem dX5_endSome_0 : decode cX5_endSome 0 = .ok (.iconst 0, 1) := by decide +kernel
theorem dX5_endSome_1 : decode cX5_endSome 1 = .ok (.istore_n 1, 1) := by decide +kernel
theorem dX5_endSome_2 : decode cX5_endSome 2 = .ok (.iload_n 1, 1) := by decide +kernel
theorem dX5_endSome_3 : decode cX5_endSome 3 = .ok (.aload_n 0, 1) := by decide +kernel
theorem dX5_endSome_4 : decode cX5_endSome 4 = .ok (.getfield 49, 3) := by decide +kernel
theorem dX5_endSome_7 : decode cX5_endSome 7 = .ok (.if_icmp .ge 40, 3) := by decide +kernel
theorem dX5_endSome_10 : decode cX5_endSome 10 = .ok (.iconst 0, 1) := by decide +kernel
theorem dX5_endSome_11 : decode cX5_endSome 11 = .ok (.istore_n 2, 1) := by decide +kernel
theorem dX5_endSome_12 : decode cX5_endSome 12 = .ok (.iload_n 2, 1) := by decide +kernel
theorem dX5_endSome_13 : decode cX5_endSome 13 = .ok (.aload_n 0, 1) := by decide +kernel
theorem dX5_endSome_14 : decode cX5_endSome 14 = .ok (.getfield 49, 3) := by decide +kernel
theorem dX5_endSome_17 : decode cX5_endSome 17 = .ok (.if_icmp .ge 24, 3) := by decide +kernel
theorem dX5_endSome_20 : decode cX5_endSome 20 = .ok (.aload_n 0, 1) := by decide +kernel
theorem dX5_endSome_21 : decode cX5_endSome 21 = .ok (.iload_n 1, 1) := by decide +kernel
theorem dX5_endSome_22 : decode cX5_endSome 22 = .ok (.iload_n 2, 1) := by decide +kernel
theorem dX5_endSome_23 : decode cX5_endSome 23 = .ok (.invokevirtual 90, 3) := by decide +kernel
theorem dX5_endSome_26 : decode cX5_endSome 26 = .ok (.ifCond .eq 9, 3) := by decide +kernel
theorem dX5_endSome_29 : decode cX5_endSome 29 = .ok (.aload_n 0, 1) := by decide +kernel
theorem dX5_endSome_30 : decode cX5_endSome 30 = .ok (.iload_n 1, 1) := by decide +kernel
theorem dX5_endSome_31 : decode cX5_endSome 31 = .ok (.iload_n 2, 1) := by decide +kernel
theorem dX5_endSome_32 : decode cX5_endSome 32 = .ok (.invokevirtual 150, 3) := by decide +kernel
theorem dX5_endSome_35 : decode cX5_endSome 35 = .ok (.iinc 2 1, 3) := by decide +kernel
theorem dX5_endSome_38 : decode cX5_endSome 38 = .ok (.goto (-26), 3) := by decide +kernel
theorem dX5_endSome_41 : decode cX5_endSome 41 = .ok (.iinc 1 1, 3) := by decide +kernel
theorem dX5_endSome_44 : decode cX5_endSome 44 = .ok (.goto (-42), 3) := by decide +kernel
theorem dX5_endSome_47 : decode cX5_endSome 47 = .ok (.return_, 1) := by decide +kernel
abbrev rm_X5_endSome : Room := { frames := 2, cells := 0, slots := 0, locals := 47 }
theorem t_b_X5_endSome_12 {G : oa_G} {O : oa_O} {A : Nat → Prop} {h : Nat → Nat} {res : oa_I2} (C : oa_C G cX5_endSome 3 RX5 none rm_X5_endSome O A)  (x1 : Int32)  (k2 : oa_I2 → Int32 → Option (oa_I2)) (k12 : oa_I2 → Int32 → Option (oa_I2)) (hk2 : ∀ (b_V : oa_I2) (b_x1 : Int32), k2 b_V b_x1 = some res → ww G 3 O A (oa_Q G O A (0, 0) none (fun W1 => W1 = wd_V O h res)) (0, 0) 2 [(0, .ref (h 0)), (1, .int b_x1)] [] (wd_V O h b_V)) (hk12 : ∀ (b_V : oa_I2) (b_x2 : Int32), k12 b_V b_x2 = some res → ww G 3 O A (oa_Q G O A (0, 0) none (fun W1 => W1 = wd_V O h res)) (0, 0) 12 [(0, .ref (h 0)), (1, .int x1), (2, .int b_x2)] [] (wd_V O h b_V)) (V : oa_I2) (x2 : Int32) (hf : b_X5_endSome_12 x1 k2 k12 V x2 = some res) : ww G 3 O A (oa_Q G O A (0, 0) none (fun W1 => W1 = wd_V O h res)) (0, 0) 12 [(0, .ref (h 0)), (1, .int x1), (2, .int x2)] [] (wd_V O h V) := by
  delta b_X5_endSome_12 at hf
  refine ww_iload_n (pc := 12) (i := 2) C 2 dX5_endSome_12 rfl rfl ?_
  refine ww_aload_n (pc := 13) (i := 0) C 0 dX5_endSome_13 rfl rfl ?_
  refine ww_get (pc := 14) C fl_X5_49 0 rfl rfl dX5_endSome_14 ?_
  refine ww_icmp_ge (pc := 17) (tgt := 41) C dX5_endSome_17 (by decide) (fun c2 => ?_) (fun c2 => ?_)
  · have hf := oa_ifp c2 hf
    refine ww_iinc (pc := 41) (v := (x1 + 1)) (L' := [(0, .ref (h 0)), (1, .int (x1 + 1)), (2, .int x2)]) C 1 [1, 0, 2] dX5_endSome_41 rfl (ki_1 _) (Nat.le_of_ble_eq_true rfl) rfl ?_
    refine ww_goto (pc := 44) (tgt := 2) C dX5_endSome_44 (by decide) ?_
    refine ww_sub C [0, 1] rfl ?_
    exact hk2 V (x1 + 1) hf
  · have hf := oa_ifn c2 hf
    refine ww_aload_n (pc := 20) (i := 0) C 0 dX5_endSome_20 rfl rfl ?_
    refine ww_iload_n (pc := 21) (i := 1) C 1 dX5_endSome_21 rfl rfl ?_
    refine ww_iload_n (pc := 22) (i := 2) C 2 dX5_endSome_22 rfl rfl ?_
    obtain ⟨y3, e4, hf⟩ := oa_bind hf
    refine ww_callV (pc := 23) (As := [.int x1, .int x2]) (rest := []) (wd := wd_V O h V) (ws' := wd_V O h V) (rv := (some (.int y3))) C hY_X5_isAngry hV_X5_isAngry lk_X5_90 (m_X5_isAngry _ O h V x1 x2 _ e4) [0, 1, 2, 3, 4, 5] 0 rfl rfl rfl rfl rfl (oa_putS _ _ _ rfl) (fun _ h => h) ⟨rfl, rfl⟩ ⟨Nat.zero_le _, Nat.zero_le _⟩ ⟨Nat.le_of_ble_eq_true rfl, Nat.le_of_ble_eq_true rfl⟩ rfl (Nat.le_of_ble_eq_true rfl) rfl rfl dX5_endSome_23 ?_
    refine ww_if_eq (pc := 26) (tgt := 35) C dX5_endSome_26 (by decide) (fun c6 => ?_) (fun c6 => ?_)
    · have hf := oa_ifp c6 hf
      refine ww_iinc (pc := 35) (v := (x2 + 1)) (L' := [(0, .ref (h 0)), (1, .int x1), (2, .int (x2 + 1))]) C 2 [1, 2, 0] dX5_endSome_35 rfl (ki_1 _) (Nat.le_of_ble_eq_true rfl) rfl ?_
      refine ww_goto (pc := 38) (tgt := 12) C dX5_endSome_38 (by decide) ?_
      exact hk12 V (x2 + 1) hf
    · have hf := oa_ifn c6 hf
      refine ww_aload_n (pc := 29) (i := 0) C 0 dX5_endSome_29 rfl rfl ?_
      refine ww_iload_n (pc := 30) (i := 1) C 1 dX5_endSome_30 rfl rfl ?_
      refine ww_iload_n (pc := 31) (i := 2) C 2 dX5_endSome_31 rfl rfl ?_
      obtain ⟨V7, e8, hf⟩ := oa_bind hf
      refine ww_callV (pc := 32) (As := [.int x1, .int x2]) (rest := []) (wd := wd_V O h V7) (ws' := wd_V O h V7) (rv := none) C hY_X5_endOne hV_X5_endOne lk_X5_150 (m_X5_endOne _ O h V x1 x2 _ e8) [0, 1, 2, 3, 4, 5] 0 rfl rfl rfl rfl rfl rfl (fun _ h => h) ⟨rfl, rfl⟩ ⟨Nat.zero_le _, Nat.zero_le _⟩ ⟨Nat.le_of_ble_eq_true rfl, Nat.le_of_ble_eq_true rfl⟩ rfl (Nat.le_of_ble_eq_true rfl) rfl rfl dX5_endSome_32 ?_
      refine ww_iinc (pc := 35) (v := (x2 + 1)) (L' := [(0, .ref (h 0)), (1, .int x1), (2, .int (x2 + 1))]) C 2 [1, 2, 0] dX5_endSome_35 rfl (ki_1 _) (Nat.le_of_ble_eq_true rfl) rfl ?_
      refine ww_goto (pc := 38) (tgt := 12) C dX5_endSome_38 (by decide) ?_
      exact hk12 V7 (x2 + 1) hf
theorem t_l_X5_endSome_12 {G : oa_G} {O : oa_O} {A : Nat → Prop} {h : Nat → Nat} {res : oa_I2} (C : oa_C G cX5_endSome 3 RX5 none rm_X5_endSome O A)  (x1 : Int32) (k2 : oa_I2 → Int32 → Option (oa_I2)) (hk2 : ∀ (b_V : oa_I2) (b_x1 : Int32), k2 b_V b_x1 = some res → ww G 3 O A (oa_Q G O A (0, 0) none (fun W1 => W1 = wd_V O h res)) (0, 0) 2 [(0, .ref (h 0)), (1, .int b_x1)] [] (wd_V O h b_V)) : ∀ (n : Nat) (V : oa_I2) (x2 : Int32), l_X5_endSome_12 x1 k2 n V x2 = some res → ww G 3 O A (oa_Q G O A (0, 0) none (fun W1 => W1 = wd_V O h res)) (0, 0) 12 [(0, .ref (h 0)), (1, .int x1), (2, .int x2)] [] (wd_V O h V) := by
  intro n
  induction n with
  | zero => intro V x2 hf; exact absurd (show (none : Option (oa_I2)) = some res from hf) (fun h => nomatch h)
  | succ n ih =>
    intro V x2 hf
    exact t_b_X5_endSome_12 C  x1 k2 (fun V x2 => l_X5_endSome_12 x1 k2 n V x2) hk2 (fun V x2 h => ih V x2 h) V x2 hf
theorem t_b_X5_endSome_2 {G : oa_G} {O : oa_O} {A : Nat → Prop} {h : Nat → Nat} {res : oa_I2} (C : oa_C G cX5_endSome 3 RX5 none rm_X5_endSome O A)     (k2 : oa_I2 → Int32 → Option (oa_I2))  (hk2 : ∀ (b_V : oa_I2) (b_x1 : Int32), k2 b_V b_x1 = some res → ww G 3 O A (oa_Q G O A (0, 0) none (fun W1 => W1 = wd_V O h res)) (0, 0) 2 [(0, .ref (h 0)), (1, .int b_x1)] [] (wd_V O h b_V)) (V : oa_I2) (x1 : Int32) (hf : b_X5_endSome_2 k2 V x1 = some res) : ww G 3 O A (oa_Q G O A (0, 0) none (fun W1 => W1 = wd_V O h res)) (0, 0) 2 [(0, .ref (h 0)), (1, .int x1)] [] (wd_V O h V) := by
  delta b_X5_endSome_2 at hf
  refine ww_iload_n (pc := 2) (i := 1) C 1 dX5_endSome_2 rfl rfl ?_
  refine ww_aload_n (pc := 3) (i := 0) C 0 dX5_endSome_3 rfl rfl ?_
  refine ww_get (pc := 4) C fl_X5_49 0 rfl rfl dX5_endSome_4 ?_
  refine ww_icmp_ge (pc := 7) (tgt := 47) C dX5_endSome_7 (by decide) (fun c1 => ?_) (fun c1 => ?_)
  · have hf := oa_ifp c1 hf
    obtain rfl := Option.some.inj hf
    exact ww_vret (pc := 47) C rfl dX5_endSome_47
  · have hf := oa_ifn c1 hf
    refine ww_iconst (pc := 10) C dX5_endSome_10 kc_0 ?_
    refine ww_istore_n (pc := 11) (L' := [(0, .ref (h 0)), (1, .int x1), (2, .int 0)]) C [1, 2, 0] dX5_endSome_11 rfl (Nat.le_of_ble_eq_true rfl) rfl ?_
    exact t_l_X5_endSome_12 C  x1 k2 hk2 oa_fu V 0 hf
theorem t_l_X5_endSome_2 {G : oa_G} {O : oa_O} {A : Nat → Prop} {h : Nat → Nat} {res : oa_I2} (C : oa_C G cX5_endSome 3 RX5 none rm_X5_endSome O A)     : ∀ (n : Nat) (V : oa_I2) (x1 : Int32), l_X5_endSome_2  n V x1 = some res → ww G 3 O A (oa_Q G O A (0, 0) none (fun W1 => W1 = wd_V O h res)) (0, 0) 2 [(0, .ref (h 0)), (1, .int x1)] [] (wd_V O h V) := by
  intro n
  induction n with
  | zero => intro V x1 hf; exact absurd (show (none : Option (oa_I2)) = some res from hf) (fun h => nomatch h)
  | succ n ih =>
    intro V x1 hf
    exact t_b_X5_endSome_2 C   (fun V x1 => l_X5_endSome_2  n V x1)  (fun V x1 h => ih V x1 h) V x1 hf
theorem m_X5_endSome (l : Launch) (O : oa_O) (h : Nat → Nat) (V : oa_I2)  (res : oa_I2) (hf : f_X5_endSome V = some res) : oa_M l yX5_endSome cX5_endSome 3 none rm_X5_endSome O [.ref (h 0)] (wd_V O h V) none (fun W1 => W1 = wd_V O h res) := by
  refine oa_Mof (by decide) (Nat.le_of_ble_eq_true rfl) (fun G A hl C => ?_)
  subst hl
  have C : oa_C G cX5_endSome 3 RX5 none rm_X5_endSome O A := C
  have hf : f_X5_endSome V = some res := hf
  delta f_X5_endSome at hf
  show ww G 3 O A (oa_Q G O A (0, 0) none (fun W1 => W1 = wd_V O h res)) (0, 0) 0 [(0, .ref (h 0))] [] (wd_V O h V)
  refine ww_iconst (pc := 0) C dX5_endSome_0 kc_0 ?_
  refine ww_istore_n (pc := 1) (L' := [(0, .ref (h 0)), (1, .int 0)]) C [1, 0] dX5_endSome_1 rfl (Nat.le_of_ble_eq_true rfl) rfl ?_
  exact t_l_X5_endSome_2 C     oa_fu V 0 hf
theorem dX5_hurtAll_0 : decode cX5_hurtAll 0 = .ok (.iconst 0, 1) := by decide +kernel
theorem dX5_hurtAll_1 : decode cX5_hurtAll 1 = .ok (.istore_n 1, 1) := by decide +kernel
theorem dX5_hurtAll_2 : decode cX5_hurtAll 2 = .ok (.iload_n 1, 1) := by decide +kernel
theorem dX5_hurtAll_3 : decode cX5_hurtAll 3 = .ok (.aload_n 0, 1) := by decide +kernel
theorem dX5_hurtAll_4 : decode cX5_hurtAll 4 = .ok (.getfield 49, 3) := by decide +kernel
theorem dX5_hurtAll_7 : decode cX5_hurtAll 7 = .ok (.if_icmp .ge 64, 3) := by decide +kernel
theorem dX5_hurtAll_10 : decode cX5_hurtAll 10 = .ok (.iconst 0, 1) := by decide +kernel
theorem dX5_hurtAll_11 : decode cX5_hurtAll 11 = .ok (.istore_n 2, 1) := by decide +kernel
theorem dX5_hurtAll_12 : decode cX5_hurtAll 12 = .ok (.iload_n 2, 1) := by decide +kernel
theorem dX5_hurtAll_13 : decode cX5_hurtAll 13 = .ok (.aload_n 0, 1) := by decide +kernel
theorem dX5_hurtAll_14 : decode cX5_hurtAll 14 = .ok (.getfield 49, 3) := by decide +kernel
theorem dX5_hurtAll_17 : decode cX5_hurtAll 17 = .ok (.if_icmp .ge 48, 3) := by decide +kernel
theorem dX5_hurtAll_20 : decode cX5_hurtAll 20 = .ok (.aload_n 0, 1) := by decide +kernel
theorem dX5_hurtAll_21 : decode cX5_hurtAll 21 = .ok (.iload_n 1, 1) := by decide +kernel
theorem dX5_hurtAll_22 : decode cX5_hurtAll 22 = .ok (.iload_n 2, 1) := by decide +kernel
theorem dX5_hurtAll_23 : decode cX5_hurtAll 23 = .ok (.invokevirtual 90, 3) := by decide +kernel
theorem dX5_hurtAll_26 : decode cX5_hurtAll 26 = .ok (.ifCond .eq 33, 3) := by decide +kernel
theorem dX5_hurtAll_29 : decode cX5_hurtAll 29 = .ok (.aload_n 0, 1) := by decide +kernel
theorem dX5_hurtAll_30 : decode cX5_hurtAll 30 = .ok (.getfield 24, 3) := by decide +kernel
theorem dX5_hurtAll_33 : decode cX5_hurtAll 33 = .ok (.iload_n 2, 1) := by decide +kernel
theorem dX5_hurtAll_34 : decode cX5_hurtAll 34 = .ok (.dup2, 1) := by decide +kernel
theorem dX5_hurtAll_35 : decode cX5_hurtAll 35 = .ok (.iaload, 1) := by decide +kernel
theorem dX5_hurtAll_36 : decode cX5_hurtAll 36 = .ok (.aload_n 0, 1) := by decide +kernel
theorem dX5_hurtAll_37 : decode cX5_hurtAll 37 = .ok (.iconst 3, 1) := by decide +kernel
theorem dX5_hurtAll_38 : decode cX5_hurtAll 38 = .ok (.iload_n 1, 1) := by decide +kernel
theorem dX5_hurtAll_39 : decode cX5_hurtAll 39 = .ok (.invokevirtual 70, 3) := by decide +kernel
theorem dX5_hurtAll_42 : decode cX5_hurtAll 42 = .ok (.isub, 1) := by decide +kernel
theorem dX5_hurtAll_43 : decode cX5_hurtAll 43 = .ok (.iastore, 1) := by decide +kernel
theorem dX5_hurtAll_44 : decode cX5_hurtAll 44 = .ok (.aload_n 0, 1) := by decide +kernel
theorem dX5_hurtAll_45 : decode cX5_hurtAll 45 = .ok (.getfield 21, 3) := by decide +kernel
theorem dX5_hurtAll_48 : decode cX5_hurtAll 48 = .ok (.iload_n 1, 1) := by decide +kernel
theorem dX5_hurtAll_49 : decode cX5_hurtAll 49 = .ok (.bipush 6, 2) := by decide +kernel
theorem dX5_hurtAll_51 : decode cX5_hurtAll 51 = .ok (.imul, 1) := by decide +kernel
theorem dX5_hurtAll_52 : decode cX5_hurtAll 52 = .ok (.iload_n 2, 1) := by decide +kernel
theorem dX5_hurtAll_53 : decode cX5_hurtAll 53 = .ok (.iadd, 1) := by decide +kernel
theorem dX5_hurtAll_54 : decode cX5_hurtAll 54 = .ok (.dup2, 1) := by decide +kernel
theorem dX5_hurtAll_55 : decode cX5_hurtAll 55 = .ok (.iaload, 1) := by decide +kernel
theorem dX5_hurtAll_56 : decode cX5_hurtAll 56 = .ok (.iconst 1, 1) := by decide +kernel
theorem dX5_hurtAll_57 : decode cX5_hurtAll 57 = .ok (.iadd, 1) := by decide +kernel
theorem dX5_hurtAll_58 : decode cX5_hurtAll 58 = .ok (.iastore, 1) := by decide +kernel
theorem dX5_hurtAll_59 : decode cX5_hurtAll 59 = .ok (.iinc 2 1, 3) := by decide +kernel
theorem dX5_hurtAll_62 : decode cX5_hurtAll 62 = .ok (.goto (-50), 3) := by decide +kernel
theorem dX5_hurtAll_65 : decode cX5_hurtAll 65 = .ok (.iinc 1 1, 3) := by decide +kernel
theorem dX5_hurtAll_68 : decode cX5_hurtAll 68 = .ok (.goto (-66), 3) := by decide +kernel
theorem dX5_hurtAll_71 : decode cX5_hurtAll 71 = .ok (.return_, 1) := by decide +kernel
abbrev rm_X5_hurtAll : Room := { frames := 1, cells := 0, slots := 0, locals := 22 }
theorem t_b_X5_hurtAll_12 {G : oa_G} {O : oa_O} {A : Nat → Prop} {h : Nat → Nat} {res : oa_I2} (C : oa_C G cX5_hurtAll 3 RX5 none rm_X5_hurtAll O A)  (x1 : Int32)  (k2 : oa_I2 → Int32 → Option (oa_I2)) (k12 : oa_I2 → Int32 → Option (oa_I2)) (hk2 : ∀ (b_V : oa_I2) (b_x1 : Int32), k2 b_V b_x1 = some res → ww G 3 O A (oa_Q G O A (0, 0) none (fun W1 => W1 = wd_V O h res)) (0, 0) 2 [(0, .ref (h 0)), (1, .int b_x1)] [] (wd_V O h b_V)) (hk12 : ∀ (b_V : oa_I2) (b_x2 : Int32), k12 b_V b_x2 = some res → ww G 3 O A (oa_Q G O A (0, 0) none (fun W1 => W1 = wd_V O h res)) (0, 0) 12 [(0, .ref (h 0)), (1, .int x1), (2, .int b_x2)] [] (wd_V O h b_V)) (V : oa_I2) (x2 : Int32) (hf : b_X5_hurtAll_12 x1 k2 k12 V x2 = some res) : ww G 3 O A (oa_Q G O A (0, 0) none (fun W1 => W1 = wd_V O h res)) (0, 0) 12 [(0, .ref (h 0)), (1, .int x1), (2, .int x2)] [] (wd_V O h V) := by
  delta b_X5_hurtAll_12 at hf
  refine ww_iload_n (pc := 12) (i := 2) C 2 dX5_hurtAll_12 rfl rfl ?_
  refine ww_aload_n (pc := 13) (i := 0) C 0 dX5_hurtAll_13 rfl rfl ?_
  refine ww_get (pc := 14) C fl_X5_49 0 rfl rfl dX5_hurtAll_14 ?_
  refine ww_icmp_ge (pc := 17) (tgt := 65) C dX5_hurtAll_17 (by decide) (fun c2 => ?_) (fun c2 => ?_)
  · have hf := oa_ifp c2 hf
    refine ww_iinc (pc := 65) (v := (x1 + 1)) (L' := [(0, .ref (h 0)), (1, .int (x1 + 1)), (2, .int x2)]) C 1 [1, 0, 2] dX5_hurtAll_65 rfl (ki_1 _) (Nat.le_of_ble_eq_true rfl) rfl ?_
    refine ww_goto (pc := 68) (tgt := 2) C dX5_hurtAll_68 (by decide) ?_
    refine ww_sub C [0, 1] rfl ?_
    exact hk2 V (x1 + 1) hf
  · have hf := oa_ifn c2 hf
    refine ww_aload_n (pc := 20) (i := 0) C 0 dX5_hurtAll_20 rfl rfl ?_
    refine ww_iload_n (pc := 21) (i := 1) C 1 dX5_hurtAll_21 rfl rfl ?_
    refine ww_iload_n (pc := 22) (i := 2) C 2 dX5_hurtAll_22 rfl rfl ?_
    obtain ⟨y3, e4, hf⟩ := oa_bind hf
    refine ww_callV (pc := 23) (As := [.int x1, .int x2]) (rest := []) (wd := wd_V O h V) (ws' := wd_V O h V) (rv := (some (.int y3))) C hY_X5_isAngry hV_X5_isAngry lk_X5_90 (m_X5_isAngry _ O h V x1 x2 _ e4) [0, 1, 2, 3, 4, 5] 0 rfl rfl rfl rfl rfl (oa_putS _ _ _ rfl) (fun _ h => h) ⟨rfl, rfl⟩ ⟨Nat.zero_le _, Nat.zero_le _⟩ ⟨Nat.le_of_ble_eq_true rfl, Nat.le_of_ble_eq_true rfl⟩ rfl (Nat.le_of_ble_eq_true rfl) rfl rfl dX5_hurtAll_23 ?_
    refine ww_if_eq (pc := 26) (tgt := 59) C dX5_hurtAll_26 (by decide) (fun c6 => ?_) (fun c6 => ?_)
    · have hf := oa_ifp c6 hf
      refine ww_iinc (pc := 59) (v := (x2 + 1)) (L' := [(0, .ref (h 0)), (1, .int x1), (2, .int (x2 + 1))]) C 2 [1, 2, 0] dX5_hurtAll_59 rfl (ki_1 _) (Nat.le_of_ble_eq_true rfl) rfl ?_
      refine ww_goto (pc := 62) (tgt := 12) C dX5_hurtAll_62 (by decide) ?_
      exact hk12 V (x2 + 1) hf
    · have hf := oa_ifn c6 hf
      refine ww_aload_n (pc := 29) (i := 0) C 0 dX5_hurtAll_29 rfl rfl ?_
      refine ww_get (pc := 30) C fl_X5_24 0 rfl rfl dX5_hurtAll_30 ?_
      refine ww_iload_n (pc := 33) (i := 2) C 2 dX5_hurtAll_33 rfl rfl ?_
      refine ww_dup2 (pc := 34) C dX5_hurtAll_34 rfl rfl ?_
      obtain ⟨y7, e8, hf⟩ := oa_bind hf
      refine ww_iald (pc := 35) C 5 rfl e8 dX5_hurtAll_35 ?_
      refine ww_aload_n (pc := 36) (i := 0) C 0 dX5_hurtAll_36 rfl rfl ?_
      refine ww_iconst (pc := 37) C dX5_hurtAll_37 kc_3 ?_
      refine ww_iload_n (pc := 38) (i := 1) C 1 dX5_hurtAll_38 rfl rfl ?_
      obtain ⟨y9, e10, hf⟩ := oa_bind hf
      refine ww_callV (pc := 39) (As := [.int 3, .int x1]) (rest := [.int y7, .int x2, .ref (h 5)]) (wd := wd_V O h V) (ws' := wd_V O h V) (rv := (some (.int y9))) C hY_X5_trait hV_X5_trait lk_X5_70 (m_X5_trait _ O h V 3 x1 _ e10) [0, 1, 2, 3, 4, 5] 0 rfl rfl rfl rfl rfl (oa_putS _ _ _ rfl) (fun _ h => h) ⟨rfl, rfl⟩ ⟨Nat.zero_le _, Nat.zero_le _⟩ ⟨Nat.le_of_ble_eq_true rfl, Nat.le_of_ble_eq_true rfl⟩ rfl (Nat.le_of_ble_eq_true rfl) rfl rfl dX5_hurtAll_39 ?_
      refine ww_isub (pc := 42) C dX5_hurtAll_42 ?_
      obtain ⟨g12, e13, hf⟩ := oa_bind hf
      obtain ⟨V14, e15, hf⟩ := oa_letE hf
      refine ww_iast (pc := 43) C (fun Z => wd_V O h Z) 5 rfl e13 e15 rfl dX5_hurtAll_43 ?_
      refine ww_aload_n (pc := 44) (i := 0) C 0 dX5_hurtAll_44 rfl rfl ?_
      refine ww_get (pc := 45) C fl_X5_21 0 rfl rfl dX5_hurtAll_45 ?_
      refine ww_iload_n (pc := 48) (i := 1) C 1 dX5_hurtAll_48 rfl rfl ?_
      refine ww_bipush (pc := 49) C dX5_hurtAll_49 kb_6 ?_
      refine ww_imul (pc := 51) C dX5_hurtAll_51 ?_
      refine ww_iload_n (pc := 52) (i := 2) C 2 dX5_hurtAll_52 rfl rfl ?_
      refine ww_iadd (pc := 53) C dX5_hurtAll_53 ?_
      refine ww_dup2 (pc := 54) C dX5_hurtAll_54 rfl rfl ?_
      obtain ⟨y16, e17, hf⟩ := oa_bind hf
      refine ww_iald (pc := 55) C 4 rfl e17 dX5_hurtAll_55 ?_
      refine ww_iconst (pc := 56) C dX5_hurtAll_56 kc_1 ?_
      refine ww_iadd (pc := 57) C dX5_hurtAll_57 ?_
      obtain ⟨g18, e19, hf⟩ := oa_bind hf
      obtain ⟨V20, e21, hf⟩ := oa_letE hf
      refine ww_iast (pc := 58) C (fun Z => wd_V O h Z) 4 rfl e19 e21 rfl dX5_hurtAll_58 ?_
      refine ww_iinc (pc := 59) (v := (x2 + 1)) (L' := [(0, .ref (h 0)), (1, .int x1), (2, .int (x2 + 1))]) C 2 [1, 2, 0] dX5_hurtAll_59 rfl (ki_1 _) (Nat.le_of_ble_eq_true rfl) rfl ?_
      refine ww_goto (pc := 62) (tgt := 12) C dX5_hurtAll_62 (by decide) ?_
      exact hk12 V20 (x2 + 1) hf
theorem t_l_X5_hurtAll_12 {G : oa_G} {O : oa_O} {A : Nat → Prop} {h : Nat → Nat} {res : oa_I2} (C : oa_C G cX5_hurtAll 3 RX5 none rm_X5_hurtAll O A)  (x1 : Int32) (k2 : oa_I2 → Int32 → Option (oa_I2)) (hk2 : ∀ (b_V : oa_I2) (b_x1 : Int32), k2 b_V b_x1 = some res → ww G 3 O A (oa_Q G O A (0, 0) none (fun W1 => W1 = wd_V O h res)) (0, 0) 2 [(0, .ref (h 0)), (1, .int b_x1)] [] (wd_V O h b_V)) : ∀ (n : Nat) (V : oa_I2) (x2 : Int32), l_X5_hurtAll_12 x1 k2 n V x2 = some res → ww G 3 O A (oa_Q G O A (0, 0) none (fun W1 => W1 = wd_V O h res)) (0, 0) 12 [(0, .ref (h 0)), (1, .int x1), (2, .int x2)] [] (wd_V O h V) := by
  intro n
  induction n with
  | zero => intro V x2 hf; exact absurd (show (none : Option (oa_I2)) = some res from hf) (fun h => nomatch h)
  | succ n ih =>
    intro V x2 hf
    exact t_b_X5_hurtAll_12 C  x1 k2 (fun V x2 => l_X5_hurtAll_12 x1 k2 n V x2) hk2 (fun V x2 h => ih V x2 h) V x2 hf
theorem t_b_X5_hurtAll_2 {G : oa_G} {O : oa_O} {A : Nat → Prop} {h : Nat → Nat} {res : oa_I2} (C : oa_C G cX5_hurtAll 3 RX5 none rm_X5_hurtAll O A)     (k2 : oa_I2 → Int32 → Option (oa_I2))  (hk2 : ∀ (b_V : oa_I2) (b_x1 : Int32), k2 b_V b_x1 = some res → ww G 3 O A (oa_Q G O A (0, 0) none (fun W1 => W1 = wd_V O h res)) (0, 0) 2 [(0, .ref (h 0)), (1, .int b_x1)] [] (wd_V O h b_V)) (V : oa_I2) (x1 : Int32) (hf : b_X5_hurtAll_2 k2 V x1 = some res) : ww G 3 O A (oa_Q G O A (0, 0) none (fun W1 => W1 = wd_V O h res)) (0, 0) 2 [(0, .ref (h 0)), (1, .int x1)] [] (wd_V O h V) := by
  delta b_X5_hurtAll_2 at hf
  refine ww_iload_n (pc := 2) (i := 1) C 1 dX5_hurtAll_2 rfl rfl ?_
  refine ww_aload_n (pc := 3) (i := 0) C 0 dX5_hurtAll_3 rfl rfl ?_
  refine ww_get (pc := 4) C fl_X5_49 0 rfl rfl dX5_hurtAll_4 ?_
  refine ww_icmp_ge (pc := 7) (tgt := 71) C dX5_hurtAll_7 (by decide) (fun c1 => ?_) (fun c1 => ?_)
  · have hf := oa_ifp c1 hf
    obtain rfl := Option.some.inj hf
    exact ww_vret (pc := 71) C rfl dX5_hurtAll_71
  · have hf := oa_ifn c1 hf
    refine ww_iconst (pc := 10) C dX5_hurtAll_10 kc_0 ?_
    refine ww_istore_n (pc := 11) (L' := [(0, .ref (h 0)), (1, .int x1), (2, .int 0)]) C [1, 2, 0] dX5_hurtAll_11 rfl (Nat.le_of_ble_eq_true rfl) rfl ?_
    exact t_l_X5_hurtAll_12 C  x1 k2 hk2 oa_fu V 0 hf
theorem t_l_X5_hurtAll_2 {G : oa_G} {O : oa_O} {A : Nat → Prop} {h : Nat → Nat} {res : oa_I2} (C : oa_C G cX5_hurtAll 3 RX5 none rm_X5_hurtAll O A)     : ∀ (n : Nat) (V : oa_I2) (x1 : Int32), l_X5_hurtAll_2  n V x1 = some res → ww G 3 O A (oa_Q G O A (0, 0) none (fun W1 => W1 = wd_V O h res)) (0, 0) 2 [(0, .ref (h 0)), (1, .int x1)] [] (wd_V O h V) := by
  intro n
  induction n with
  | zero => intro V x1 hf; exact absurd (show (none : Option (oa_I2)) = some res from hf) (fun h => nomatch h)
  | succ n ih =>
    intro V x1 hf
    exact t_b_X5_hurtAll_2 C   (fun V x1 => l_X5_hurtAll_2  n V x1)  (fun V x1 h => ih V x1 h) V x1 hf
theorem m_X5_hurtAll (l : Launch) (O : oa_O) (h : Nat → Nat) (V : oa_I2)  (res : oa_I2) (hf : f_X5_hurtAll V = some res) : oa_M l yX5_hurtAll cX5_hurtAll 3 none rm_X5_hurtAll O [.ref (h 0)] (wd_V O h V) none (fun W1 => W1 = wd_V O h res) := by
  refine oa_Mof (by decide) (Nat.le_of_ble_eq_true rfl) (fun G A hl C => ?_)
  subst hl
  have C : oa_C G cX5_hurtAll 3 RX5 none rm_X5_hurtAll O A := C
  have hf : f_X5_hurtAll V = some res := hf
  delta f_X5_hurtAll at hf
  show ww G 3 O A (oa_Q G O A (0, 0) none (fun W1 => W1 = wd_V O h res)) (0, 0) 0 [(0, .ref (h 0))] [] (wd_V O h V)
  refine ww_iconst (pc := 0) C dX5_hurtAll_0 kc_0 ?_
  refine ww_istore_n (pc := 1) (L' := [(0, .ref (h 0)), (1, .int 0)]) C [1, 0] dX5_hurtAll_1 rfl (Nat.le_of_ble_eq_true rfl) rfl ?_
  exact t_l_X5_hurtAll_2 C     oa_fu V 0 hf
theorem dX5_openWrongsGuarded_0 : decode cX5_openWrongsGuarded 0 = .ok (.lconst 0, 1) := by decide +kernel
theorem dX5_openWrongsGuarded_1 : decode cX5_openWrongsGuarded 1 = .ok (.lstore_n 3, 1) := by decide +kernel
theorem dX5_openWrongsGuarded_2 : decode cX5_openWrongsGuarded 2 = .ok (.iconst 0, 1) := by decide +kernel
theorem dX5_openWrongsGuarded_3 : decode cX5_openWrongsGuarded 3 = .ok (.istore 5, 2) := by decide +kernel
theorem dX5_openWrongsGuarded_5 : decode cX5_openWrongsGuarded 5 = .ok (.iload 5, 2) := by decide +kernel
theorem dX5_openWrongsGuarded_7 : decode cX5_openWrongsGuarded 7 = .ok (.aload_n 0, 1) := by decide +kernel
theorem dX5_openWrongsGuarded_8 : decode cX5_openWrongsGuarded 8 = .ok (.getfield 49, 3) := by decide +kernel
theorem dX5_openWrongsGuarded_11 : decode cX5_openWrongsGuarded 11 = .ok (.if_icmp .ge 77, 3) := by decide +kernel
theorem dX5_openWrongsGuarded_14 : decode cX5_openWrongsGuarded 14 = .ok (.aload_n 0, 1) := by decide +kernel
theorem dX5_openWrongsGuarded_15 : decode cX5_openWrongsGuarded 15 = .ok (.iload 5, 2) := by decide +kernel
theorem dX5_openWrongsGuarded_17 : decode cX5_openWrongsGuarded 17 = .ok (.invokevirtual 141, 3) := by decide +kernel
theorem dX5_openWrongsGuarded_20 : decode cX5_openWrongsGuarded 20 = .ok (.istore 6, 2) := by decide +kernel
theorem dX5_openWrongsGuarded_22 : decode cX5_openWrongsGuarded 22 = .ok (.iconst 0, 1) := by decide +kernel
theorem dX5_openWrongsGuarded_23 : decode cX5_openWrongsGuarded 23 = .ok (.istore 7, 2) := by decide +kernel
theorem dX5_openWrongsGuarded_25 : decode cX5_openWrongsGuarded 25 = .ok (.iload 7, 2) := by decide +kernel
theorem dX5_openWrongsGuarded_27 : decode cX5_openWrongsGuarded 27 = .ok (.aload_n 0, 1) := by decide +kernel
theorem dX5_openWrongsGuarded_28 : decode cX5_openWrongsGuarded 28 = .ok (.getfield 49, 3) := by decide +kernel
theorem dX5_openWrongsGuarded_31 : decode cX5_openWrongsGuarded 31 = .ok (.if_icmp .ge 51, 3) := by decide +kernel
theorem dX5_openWrongsGuarded_34 : decode cX5_openWrongsGuarded 34 = .ok (.iload 7, 2) := by decide +kernel
theorem dX5_openWrongsGuarded_36 : decode cX5_openWrongsGuarded 36 = .ok (.iload 5, 2) := by decide +kernel
theorem dX5_openWrongsGuarded_38 : decode cX5_openWrongsGuarded 38 = .ok (.if_icmp .eq 38, 3) := by decide +kernel
theorem dX5_openWrongsGuarded_41 : decode cX5_openWrongsGuarded 41 = .ok (.aload_n 0, 1) := by decide +kernel
theorem dX5_openWrongsGuarded_42 : decode cX5_openWrongsGuarded 42 = .ok (.iload 7, 2) := by decide +kernel
theorem dX5_openWrongsGuarded_44 : decode cX5_openWrongsGuarded 44 = .ok (.iload 6, 2) := by decide +kernel
theorem dX5_openWrongsGuarded_46 : decode cX5_openWrongsGuarded 46 = .ok (.invokevirtual 123, 3) := by decide +kernel
theorem dX5_openWrongsGuarded_49 : decode cX5_openWrongsGuarded 49 = .ok (.iload 7, 2) := by decide +kernel
theorem dX5_openWrongsGuarded_51 : decode cX5_openWrongsGuarded 51 = .ok (.iload_n 1, 1) := by decide +kernel
theorem dX5_openWrongsGuarded_52 : decode cX5_openWrongsGuarded 52 = .ok (.if_icmp .ne 7, 3) := by decide +kernel
theorem dX5_openWrongsGuarded_55 : decode cX5_openWrongsGuarded 55 = .ok (.iload_n 2, 1) := by decide +kernel
theorem dX5_openWrongsGuarded_56 : decode cX5_openWrongsGuarded 56 = .ok (.goto 4, 3) := by decide +kernel
theorem dX5_openWrongsGuarded_59 : decode cX5_openWrongsGuarded 59 = .ok (.iconst 0, 1) := by decide +kernel
theorem dX5_openWrongsGuarded_60 : decode cX5_openWrongsGuarded 60 = .ok (.if_icmp .le 16, 3) := by decide +kernel
theorem dX5_openWrongsGuarded_63 : decode cX5_openWrongsGuarded 63 = .ok (.lload_n 3, 1) := by decide +kernel
theorem dX5_openWrongsGuarded_64 : decode cX5_openWrongsGuarded 64 = .ok (.lconst 1, 1) := by decide +kernel
theorem dX5_openWrongsGuarded_65 : decode cX5_openWrongsGuarded 65 = .ok (.bipush 6, 2) := by decide +kernel
theorem dX5_openWrongsGuarded_67 : decode cX5_openWrongsGuarded 67 = .ok (.iload 5, 2) := by decide +kernel
theorem dX5_openWrongsGuarded_69 : decode cX5_openWrongsGuarded 69 = .ok (.imul, 1) := by decide +kernel
theorem dX5_openWrongsGuarded_70 : decode cX5_openWrongsGuarded 70 = .ok (.iload 7, 2) := by decide +kernel
theorem dX5_openWrongsGuarded_72 : decode cX5_openWrongsGuarded 72 = .ok (.iadd, 1) := by decide +kernel
theorem dX5_openWrongsGuarded_73 : decode cX5_openWrongsGuarded 73 = .ok (.lshl, 1) := by decide +kernel
theorem dX5_openWrongsGuarded_74 : decode cX5_openWrongsGuarded 74 = .ok (.lor, 1) := by decide +kernel
theorem dX5_openWrongsGuarded_75 : decode cX5_openWrongsGuarded 75 = .ok (.lstore_n 3, 1) := by decide +kernel
theorem dX5_openWrongsGuarded_76 : decode cX5_openWrongsGuarded 76 = .ok (.iinc 7 1, 3) := by decide +kernel
theorem dX5_openWrongsGuarded_79 : decode cX5_openWrongsGuarded 79 = .ok (.goto (-54), 3) := by decide +kernel
theorem dX5_openWrongsGuarded_82 : decode cX5_openWrongsGuarded 82 = .ok (.iinc 5 1, 3) := by decide +kernel
theorem dX5_openWrongsGuarded_85 : decode cX5_openWrongsGuarded 85 = .ok (.goto (-80), 3) := by decide +kernel
theorem dX5_openWrongsGuarded_88 : decode cX5_openWrongsGuarded 88 = .ok (.lload_n 3, 1) := by decide +kernel
theorem dX5_openWrongsGuarded_89 : decode cX5_openWrongsGuarded 89 = .ok (.lreturn, 1) := by decide +kernel
abbrev rm_X5_openWrongsGuarded : Room := { frames := 4, cells := 0, slots := 0, locals := 89 }
theorem t_b_X5_openWrongsGuarded_60 {G : oa_G} {O : oa_O} {A : Nat → Prop} {h : Nat → Nat} {res : Int64} (C : oa_C G cX5_openWrongsGuarded 8 RX5 (some .long) rm_X5_openWrongsGuarded O A) (V : oa_I2) (x1 : Int32) (x2 : Int32)  (x3 : Int64) (x5 : Int32) (x6 : Int32) (x7 : Int32) (s0 : Int32) (s1 : Int32) (k5 : Int64 → Int32 → Option (Int64)) (k25 : Int64 → Int32 → Option (Int64)) (hk5 : ∀ (b_x3 : Int64) (b_x5 : Int32), k5 b_x3 b_x5 = some res → ww G 8 O A (oa_Q G O A (0, 0) (some (.long res)) (fun W1 => W1 = wd_V O h V)) (0, 0) 5 [(0, .ref (h 0)), (1, .int x1), (2, .int x2), (3, .long b_x3), (5, .int b_x5)] [] (wd_V O h V)) (hk25 : ∀ (b_x3 : Int64) (b_x7 : Int32), k25 b_x3 b_x7 = some res → ww G 8 O A (oa_Q G O A (0, 0) (some (.long res)) (fun W1 => W1 = wd_V O h V)) (0, 0) 25 [(0, .ref (h 0)), (1, .int x1), (2, .int x2), (3, .long b_x3), (5, .int x5), (6, .int x6), (7, .int b_x7)] [] (wd_V O h V))  (hf : b_X5_openWrongsGuarded_60 V x1 x2 k5 k25 x3 x5 x6 x7 s0 s1 = some res) : ww G 8 O A (oa_Q G O A (0, 0) (some (.long res)) (fun W1 => W1 = wd_V O h V)) (0, 0) 60 [(0, .ref (h 0)), (1, .int x1), (2, .int x2), (3, .long x3), (5, .int x5), (6, .int x6), (7, .int x7)] [.int s1, .int s0] (wd_V O h V) := by
  delta b_X5_openWrongsGuarded_60 at hf
  refine ww_icmp_le (pc := 60) (tgt := 76) C dX5_openWrongsGuarded_60 (by decide) (fun c11 => ?_) (fun c11 => ?_)
  · have hf := oa_ifp c11 hf
    refine ww_iinc (pc := 76) (v := (x7 + 1)) (L' := [(0, .ref (h 0)), (1, .int x1), (2, .int x2), (3, .long x3), (5, .int x5), (6, .int x6), (7, .int (x7 + 1))]) C 6 [1, 2, 3, 4, 5, 6, 0] dX5_openWrongsGuarded_76 rfl (ki_1 _) (Nat.le_of_ble_eq_true rfl) rfl ?_
    refine ww_goto (pc := 79) (tgt := 25) C dX5_openWrongsGuarded_79 (by decide) ?_
    exact hk25 x3 (x7 + 1) hf
  · have hf := oa_ifn c11 hf
    refine ww_lload_n (pc := 63) (i := 3) C 3 dX5_openWrongsGuarded_63 rfl rfl ?_
    refine ww_lconst (pc := 64) C dX5_openWrongsGuarded_64 kl_1 ?_
    refine ww_bipush (pc := 65) C dX5_openWrongsGuarded_65 kb_6 ?_
    refine ww_iload (pc := 67) (i := 5) C 4 dX5_openWrongsGuarded_67 rfl ?_
    refine ww_imul (pc := 69) C dX5_openWrongsGuarded_69 ?_
    refine ww_iload (pc := 70) (i := 7) C 6 dX5_openWrongsGuarded_70 rfl ?_
    refine ww_iadd (pc := 72) C dX5_openWrongsGuarded_72 ?_
    refine ww_lshl (pc := 73) C dX5_openWrongsGuarded_73 ?_
    refine ww_lor (pc := 74) C dX5_openWrongsGuarded_74 ?_
    obtain ⟨y12, e13, hf⟩ := oa_letE hf
    refine ww_topl C e13 ?_
    refine ww_lstore_n (pc := 75) (L' := [(0, .ref (h 0)), (1, .int x1), (2, .int x2), (3, .long y12), (5, .int x5), (6, .int x6), (7, .int x7)]) C [1, 2, 3, 0, 4, 5, 6] dX5_openWrongsGuarded_75 rfl (Nat.le_of_ble_eq_true rfl) rfl ?_
    refine ww_iinc (pc := 76) (v := (x7 + 1)) (L' := [(0, .ref (h 0)), (1, .int x1), (2, .int x2), (3, .long y12), (5, .int x5), (6, .int x6), (7, .int (x7 + 1))]) C 6 [1, 2, 3, 4, 5, 6, 0] dX5_openWrongsGuarded_76 rfl (ki_1 _) (Nat.le_of_ble_eq_true rfl) rfl ?_
    refine ww_goto (pc := 79) (tgt := 25) C dX5_openWrongsGuarded_79 (by decide) ?_
    exact hk25 y12 (x7 + 1) hf
theorem t_b_X5_openWrongsGuarded_25 {G : oa_G} {O : oa_O} {A : Nat → Prop} {h : Nat → Nat} {res : Int64} (C : oa_C G cX5_openWrongsGuarded 8 RX5 (some .long) rm_X5_openWrongsGuarded O A) (V : oa_I2) (x1 : Int32) (x2 : Int32) (x5 : Int32) (x6 : Int32)  (k5 : Int64 → Int32 → Option (Int64)) (k25 : Int64 → Int32 → Option (Int64)) (hk5 : ∀ (b_x3 : Int64) (b_x5 : Int32), k5 b_x3 b_x5 = some res → ww G 8 O A (oa_Q G O A (0, 0) (some (.long res)) (fun W1 => W1 = wd_V O h V)) (0, 0) 5 [(0, .ref (h 0)), (1, .int x1), (2, .int x2), (3, .long b_x3), (5, .int b_x5)] [] (wd_V O h V)) (hk25 : ∀ (b_x3 : Int64) (b_x7 : Int32), k25 b_x3 b_x7 = some res → ww G 8 O A (oa_Q G O A (0, 0) (some (.long res)) (fun W1 => W1 = wd_V O h V)) (0, 0) 25 [(0, .ref (h 0)), (1, .int x1), (2, .int x2), (3, .long b_x3), (5, .int x5), (6, .int x6), (7, .int b_x7)] [] (wd_V O h V)) (x3 : Int64) (x7 : Int32) (hf : b_X5_openWrongsGuarded_25 V x1 x2 x5 x6 k5 k25 x3 x7 = some res) : ww G 8 O A (oa_Q G O A (0, 0) (some (.long res)) (fun W1 => W1 = wd_V O h V)) (0, 0) 25 [(0, .ref (h 0)), (1, .int x1), (2, .int x2), (3, .long x3), (5, .int x5), (6, .int x6), (7, .int x7)] [] (wd_V O h V) := by
  delta b_X5_openWrongsGuarded_25 at hf
  refine ww_iload (pc := 25) (i := 7) C 6 dX5_openWrongsGuarded_25 rfl ?_
  refine ww_aload_n (pc := 27) (i := 0) C 0 dX5_openWrongsGuarded_27 rfl rfl ?_
  refine ww_get (pc := 28) C fl_X5_49 0 rfl rfl dX5_openWrongsGuarded_28 ?_
  refine ww_icmp_ge (pc := 31) (tgt := 82) C dX5_openWrongsGuarded_31 (by decide) (fun c5 => ?_) (fun c5 => ?_)
  · have hf := oa_ifp c5 hf
    refine ww_iinc (pc := 82) (v := (x5 + 1)) (L' := [(0, .ref (h 0)), (1, .int x1), (2, .int x2), (3, .long x3), (5, .int (x5 + 1)), (6, .int x6), (7, .int x7)]) C 4 [1, 2, 3, 4, 0, 5, 6] dX5_openWrongsGuarded_82 rfl (ki_1 _) (Nat.le_of_ble_eq_true rfl) rfl ?_
    refine ww_goto (pc := 85) (tgt := 5) C dX5_openWrongsGuarded_85 (by decide) ?_
    refine ww_sub C [0, 1, 2, 3, 4] rfl ?_
    exact hk5 x3 (x5 + 1) hf
  · have hf := oa_ifn c5 hf
    refine ww_iload (pc := 34) (i := 7) C 6 dX5_openWrongsGuarded_34 rfl ?_
    refine ww_iload (pc := 36) (i := 5) C 4 dX5_openWrongsGuarded_36 rfl ?_
    refine ww_icmp_eq (pc := 38) (tgt := 76) C dX5_openWrongsGuarded_38 (by decide) (fun c6 => ?_) (fun c6 => ?_)
    · have hf := oa_ifp c6 hf
      refine ww_iinc (pc := 76) (v := (x7 + 1)) (L' := [(0, .ref (h 0)), (1, .int x1), (2, .int x2), (3, .long x3), (5, .int x5), (6, .int x6), (7, .int (x7 + 1))]) C 6 [1, 2, 3, 4, 5, 6, 0] dX5_openWrongsGuarded_76 rfl (ki_1 _) (Nat.le_of_ble_eq_true rfl) rfl ?_
      refine ww_goto (pc := 79) (tgt := 25) C dX5_openWrongsGuarded_79 (by decide) ?_
      exact hk25 x3 (x7 + 1) hf
    · have hf := oa_ifn c6 hf
      refine ww_aload_n (pc := 41) (i := 0) C 0 dX5_openWrongsGuarded_41 rfl rfl ?_
      refine ww_iload (pc := 42) (i := 7) C 6 dX5_openWrongsGuarded_42 rfl ?_
      refine ww_iload (pc := 44) (i := 6) C 5 dX5_openWrongsGuarded_44 rfl ?_
      obtain ⟨y7, e8, hf⟩ := oa_bind hf
      refine ww_callV (pc := 46) (As := [.int x7, .int x6]) (rest := []) (wd := wd_V O h V) (ws' := wd_V O h V) (rv := (some (.int y7))) C hY_X5_value hV_X5_value lk_X5_123 (m_X5_value _ O h V x7 x6 _ e8) [0, 1, 2, 3, 4, 5] 0 rfl rfl rfl rfl rfl (oa_putS _ _ _ rfl) (fun _ h => h) ⟨rfl, rfl⟩ ⟨Nat.zero_le _, Nat.zero_le _⟩ ⟨Nat.le_of_ble_eq_true rfl, Nat.le_of_ble_eq_true rfl⟩ rfl (Nat.le_of_ble_eq_true rfl) rfl rfl dX5_openWrongsGuarded_46 ?_
      refine ww_iload (pc := 49) (i := 7) C 6 dX5_openWrongsGuarded_49 rfl ?_
      refine ww_iload_n (pc := 51) (i := 1) C 1 dX5_openWrongsGuarded_51 rfl rfl ?_
      refine ww_icmp_ne (pc := 52) (tgt := 59) C dX5_openWrongsGuarded_52 (by decide) (fun c10 => ?_) (fun c10 => ?_)
      · have hf := oa_ifn c10 hf
        refine ww_iconst (pc := 59) C dX5_openWrongsGuarded_59 kc_0 ?_
        exact t_b_X5_openWrongsGuarded_60 C V x1 x2 x3 x5 x6 x7 y7 0 k5 k25 hk5 hk25 hf
      · have hf := oa_ifp c10 hf
        refine ww_iload_n (pc := 55) (i := 2) C 2 dX5_openWrongsGuarded_55 rfl rfl ?_
        refine ww_goto (pc := 56) (tgt := 60) C dX5_openWrongsGuarded_56 (by decide) ?_
        exact t_b_X5_openWrongsGuarded_60 C V x1 x2 x3 x5 x6 x7 y7 x2 k5 k25 hk5 hk25 hf
theorem t_l_X5_openWrongsGuarded_25 {G : oa_G} {O : oa_O} {A : Nat → Prop} {h : Nat → Nat} {res : Int64} (C : oa_C G cX5_openWrongsGuarded 8 RX5 (some .long) rm_X5_openWrongsGuarded O A) (V : oa_I2) (x1 : Int32) (x2 : Int32) (x5 : Int32) (x6 : Int32) (k5 : Int64 → Int32 → Option (Int64)) (hk5 : ∀ (b_x3 : Int64) (b_x5 : Int32), k5 b_x3 b_x5 = some res → ww G 8 O A (oa_Q G O A (0, 0) (some (.long res)) (fun W1 => W1 = wd_V O h V)) (0, 0) 5 [(0, .ref (h 0)), (1, .int x1), (2, .int x2), (3, .long b_x3), (5, .int b_x5)] [] (wd_V O h V)) : ∀ (n : Nat) (x3 : Int64) (x7 : Int32), l_X5_openWrongsGuarded_25 V x1 x2 x5 x6 k5 n x3 x7 = some res → ww G 8 O A (oa_Q G O A (0, 0) (some (.long res)) (fun W1 => W1 = wd_V O h V)) (0, 0) 25 [(0, .ref (h 0)), (1, .int x1), (2, .int x2), (3, .long x3), (5, .int x5), (6, .int x6), (7, .int x7)] [] (wd_V O h V) := by
  intro n
  induction n with
  | zero => intro x3 x7 hf; exact absurd (show (none : Option (Int64)) = some res from hf) (fun h => nomatch h)
  | succ n ih =>
    intro x3 x7 hf
    exact t_b_X5_openWrongsGuarded_25 C V x1 x2 x5 x6 k5 (fun x3 x7 => l_X5_openWrongsGuarded_25 V x1 x2 x5 x6 k5 n x3 x7) hk5 (fun x3 x7 h => ih x3 x7 h) x3 x7 hf
theorem t_b_X5_openWrongsGuarded_5 {G : oa_G} {O : oa_O} {A : Nat → Prop} {h : Nat → Nat} {res : Int64} (C : oa_C G cX5_openWrongsGuarded 8 RX5 (some .long) rm_X5_openWrongsGuarded O A) (V : oa_I2) (x1 : Int32) (x2 : Int32)    (k5 : Int64 → Int32 → Option (Int64))  (hk5 : ∀ (b_x3 : Int64) (b_x5 : Int32), k5 b_x3 b_x5 = some res → ww G 8 O A (oa_Q G O A (0, 0) (some (.long res)) (fun W1 => W1 = wd_V O h V)) (0, 0) 5 [(0, .ref (h 0)), (1, .int x1), (2, .int x2), (3, .long b_x3), (5, .int b_x5)] [] (wd_V O h V)) (x3 : Int64) (x5 : Int32) (hf : b_X5_openWrongsGuarded_5 V x1 x2 k5 x3 x5 = some res) : ww G 8 O A (oa_Q G O A (0, 0) (some (.long res)) (fun W1 => W1 = wd_V O h V)) (0, 0) 5 [(0, .ref (h 0)), (1, .int x1), (2, .int x2), (3, .long x3), (5, .int x5)] [] (wd_V O h V) := by
  delta b_X5_openWrongsGuarded_5 at hf
  refine ww_iload (pc := 5) (i := 5) C 4 dX5_openWrongsGuarded_5 rfl ?_
  refine ww_aload_n (pc := 7) (i := 0) C 0 dX5_openWrongsGuarded_7 rfl rfl ?_
  refine ww_get (pc := 8) C fl_X5_49 0 rfl rfl dX5_openWrongsGuarded_8 ?_
  refine ww_icmp_ge (pc := 11) (tgt := 88) C dX5_openWrongsGuarded_11 (by decide) (fun c1 => ?_) (fun c1 => ?_)
  · have hf := oa_ifp c1 hf
    refine ww_lload_n (pc := 88) (i := 3) C 3 dX5_openWrongsGuarded_88 rfl rfl ?_
    obtain rfl := Option.some.inj hf
    exact ww_lret (pc := 89) C rfl dX5_openWrongsGuarded_89
  · have hf := oa_ifn c1 hf
    refine ww_aload_n (pc := 14) (i := 0) C 0 dX5_openWrongsGuarded_14 rfl rfl ?_
    refine ww_iload (pc := 15) (i := 5) C 4 dX5_openWrongsGuarded_15 rfl ?_
    obtain ⟨y2, e3, hf⟩ := oa_bind hf
    refine ww_callV (pc := 17) (As := [.int x5]) (rest := []) (wd := wd_V O h V) (ws' := wd_V O h V) (rv := (some (.int y2))) C hY_X5_ableAsSeen hV_X5_ableAsSeen lk_X5_141 (m_X5_ableAsSeen _ O h V x5 _ e3) [0, 1, 2, 3, 4, 5] 0 rfl rfl rfl rfl rfl (oa_putS _ _ _ rfl) (fun _ h => h) ⟨rfl, rfl⟩ ⟨Nat.zero_le _, Nat.zero_le _⟩ ⟨Nat.le_of_ble_eq_true rfl, Nat.le_of_ble_eq_true rfl⟩ rfl (Nat.le_of_ble_eq_true rfl) rfl rfl dX5_openWrongsGuarded_17 ?_
    refine ww_istore (pc := 20) (L' := [(0, .ref (h 0)), (1, .int x1), (2, .int x2), (3, .long x3), (5, .int x5), (6, .int y2)]) C [1, 2, 3, 4, 5, 0] dX5_openWrongsGuarded_20 (Nat.le_of_ble_eq_true rfl) rfl ?_
    refine ww_iconst (pc := 22) C dX5_openWrongsGuarded_22 kc_0 ?_
    refine ww_istore (pc := 23) (L' := [(0, .ref (h 0)), (1, .int x1), (2, .int x2), (3, .long x3), (5, .int x5), (6, .int y2), (7, .int 0)]) C [1, 2, 3, 4, 5, 6, 0] dX5_openWrongsGuarded_23 (Nat.le_of_ble_eq_true rfl) rfl ?_
    exact t_l_X5_openWrongsGuarded_25 C V x1 x2 x5 y2 k5 hk5 oa_fu x3 0 hf
theorem t_l_X5_openWrongsGuarded_5 {G : oa_G} {O : oa_O} {A : Nat → Prop} {h : Nat → Nat} {res : Int64} (C : oa_C G cX5_openWrongsGuarded 8 RX5 (some .long) rm_X5_openWrongsGuarded O A) (V : oa_I2) (x1 : Int32) (x2 : Int32)    : ∀ (n : Nat) (x3 : Int64) (x5 : Int32), l_X5_openWrongsGuarded_5 V x1 x2 n x3 x5 = some res → ww G 8 O A (oa_Q G O A (0, 0) (some (.long res)) (fun W1 => W1 = wd_V O h V)) (0, 0) 5 [(0, .ref (h 0)), (1, .int x1), (2, .int x2), (3, .long x3), (5, .int x5)] [] (wd_V O h V) := by
  intro n
  induction n with
  | zero => intro x3 x5 hf; exact absurd (show (none : Option (Int64)) = some res from hf) (fun h => nomatch h)
  | succ n ih =>
    intro x3 x5 hf
    exact t_b_X5_openWrongsGuarded_5 C V x1 x2  (fun x3 x5 => l_X5_openWrongsGuarded_5 V x1 x2 n x3 x5)  (fun x3 x5 h => ih x3 x5 h) x3 x5 hf
theorem m_X5_openWrongsGuarded (l : Launch) (O : oa_O) (h : Nat → Nat) (V : oa_I2) (x1 : Int32) (x2 : Int32) (res : Int64) (hf : f_X5_openWrongsGuarded V x1 x2 = some res) : oa_M l yX5_openWrongsGuarded cX5_openWrongsGuarded 8 (some .long) rm_X5_openWrongsGuarded O [.ref (h 0), .int x1, .int x2] (wd_V O h V) (some (.long res)) (fun W1 => W1 = wd_V O h V) := by
  refine oa_Mof (by decide) (Nat.le_of_ble_eq_true rfl) (fun G A hl C => ?_)
  subst hl
  have C : oa_C G cX5_openWrongsGuarded 8 RX5 (some .long) rm_X5_openWrongsGuarded O A := C
  have hf : f_X5_openWrongsGuarded V x1 x2 = some res := hf
  delta f_X5_openWrongsGuarded at hf
  show ww G 8 O A (oa_Q G O A (0, 0) (some (.long res)) (fun W1 => W1 = wd_V O h V)) (0, 0) 0 [(0, .ref (h 0)), (1, .int x1), (2, .int x2)] [] (wd_V O h V)
  refine ww_lconst (pc := 0) C dX5_openWrongsGuarded_0 kl_0 ?_
  refine ww_lstore_n (pc := 1) (L' := [(0, .ref (h 0)), (1, .int x1), (2, .int x2), (3, .long 0)]) C [1, 2, 3, 0] dX5_openWrongsGuarded_1 rfl (Nat.le_of_ble_eq_true rfl) rfl ?_
  refine ww_iconst (pc := 2) C dX5_openWrongsGuarded_2 kc_0 ?_
  refine ww_istore (pc := 3) (L' := [(0, .ref (h 0)), (1, .int x1), (2, .int x2), (3, .long 0), (5, .int 0)]) C [1, 2, 3, 4, 0] dX5_openWrongsGuarded_3 (Nat.le_of_ble_eq_true rfl) rfl ?_
  exact t_l_X5_openWrongsGuarded_5 C V x1 x2    oa_fu 0 0 hf
theorem dX5_isSafeFor_0 : decode cX5_isSafeFor 0 = .ok (.aload_n 0, 1) := by decide +kernel
theorem dX5_isSafeFor_1 : decode cX5_isSafeFor 1 = .ok (.iload_n 1, 1) := by decide +kernel
theorem dX5_isSafeFor_2 : decode cX5_isSafeFor 2 = .ok (.iload_n 2, 1) := by decide +kernel
theorem dX5_isSafeFor_3 : decode cX5_isSafeFor 3 = .ok (.invokevirtual 159, 3) := by decide +kernel
theorem dX5_isSafeFor_6 : decode cX5_isSafeFor 6 = .ok (.lstore_n 3, 1) := by decide +kernel
theorem dX5_isSafeFor_7 : decode cX5_isSafeFor 7 = .ok (.iconst 0, 1) := by decide +kernel
theorem dX5_isSafeFor_8 : decode cX5_isSafeFor 8 = .ok (.istore 5, 2) := by decide +kernel
theorem dX5_isSafeFor_10 : decode cX5_isSafeFor 10 = .ok (.iload 5, 2) := by decide +kernel
theorem dX5_isSafeFor_12 : decode cX5_isSafeFor 12 = .ok (.aload_n 0, 1) := by decide +kernel
theorem dX5_isSafeFor_13 : decode cX5_isSafeFor 13 = .ok (.getfield 49, 3) := by decide +kernel
theorem dX5_isSafeFor_16 : decode cX5_isSafeFor 16 = .ok (.if_icmp .ge 27, 3) := by decide +kernel
theorem dX5_isSafeFor_19 : decode cX5_isSafeFor 19 = .ok (.lload_n 3, 1) := by decide +kernel
theorem dX5_isSafeFor_20 : decode cX5_isSafeFor 20 = .ok (.bipush 6, 2) := by decide +kernel
theorem dX5_isSafeFor_22 : decode cX5_isSafeFor 22 = .ok (.iload 5, 2) := by decide +kernel
theorem dX5_isSafeFor_24 : decode cX5_isSafeFor 24 = .ok (.imul, 1) := by decide +kernel
theorem dX5_isSafeFor_25 : decode cX5_isSafeFor 25 = .ok (.iload_n 1, 1) := by decide +kernel
theorem dX5_isSafeFor_26 : decode cX5_isSafeFor 26 = .ok (.iadd, 1) := by decide +kernel
theorem dX5_isSafeFor_27 : decode cX5_isSafeFor 27 = .ok (.lshr, 1) := by decide +kernel
theorem dX5_isSafeFor_28 : decode cX5_isSafeFor 28 = .ok (.lconst 1, 1) := by decide +kernel
theorem dX5_isSafeFor_29 : decode cX5_isSafeFor 29 = .ok (.land, 1) := by decide +kernel
theorem dX5_isSafeFor_30 : decode cX5_isSafeFor 30 = .ok (.lconst 0, 1) := by decide +kernel
theorem dX5_isSafeFor_31 : decode cX5_isSafeFor 31 = .ok (.lcmp, 1) := by decide +kernel
theorem dX5_isSafeFor_32 : decode cX5_isSafeFor 32 = .ok (.ifCond .eq 5, 3) := by decide +kernel
theorem dX5_isSafeFor_35 : decode cX5_isSafeFor 35 = .ok (.iconst 0, 1) := by decide +kernel
theorem dX5_isSafeFor_36 : decode cX5_isSafeFor 36 = .ok (.ireturn, 1) := by decide +kernel
theorem dX5_isSafeFor_37 : decode cX5_isSafeFor 37 = .ok (.iinc 5 1, 3) := by decide +kernel
theorem dX5_isSafeFor_40 : decode cX5_isSafeFor 40 = .ok (.goto (-30), 3) := by decide +kernel
theorem dX5_isSafeFor_43 : decode cX5_isSafeFor 43 = .ok (.iconst 1, 1) := by decide +kernel
theorem dX5_isSafeFor_44 : decode cX5_isSafeFor 44 = .ok (.ireturn, 1) := by decide +kernel
abbrev rm_X5_isSafeFor : Room := { frames := 5, cells := 0, slots := 0, locals := 116 }
theorem t_b_X5_isSafeFor_10 {G : oa_G} {O : oa_O} {A : Nat → Prop} {h : Nat → Nat} {res : Int32} (C : oa_C G cX5_isSafeFor 6 RX5 (some .boolean) rm_X5_isSafeFor O A) (V : oa_I2) (x1 : Int32) (x2 : Int32) (x3 : Int64)   (k10 : Int32 → Option (Int32))  (hk10 : ∀ (b_x5 : Int32), k10 b_x5 = some res → ww G 6 O A (oa_Q G O A (0, 0) (some (.int res)) (fun W1 => W1 = wd_V O h V)) (0, 0) 10 [(0, .ref (h 0)), (1, .int x1), (3, .long x3), (5, .int b_x5)] [] (wd_V O h V)) (x5 : Int32) (hf : b_X5_isSafeFor_10 V x1 x2 x3 k10 x5 = some res) : ww G 6 O A (oa_Q G O A (0, 0) (some (.int res)) (fun W1 => W1 = wd_V O h V)) (0, 0) 10 [(0, .ref (h 0)), (1, .int x1), (3, .long x3), (5, .int x5)] [] (wd_V O h V) := by
  delta b_X5_isSafeFor_10 at hf
  refine ww_iload (pc := 10) (i := 5) C 3 dX5_isSafeFor_10 rfl ?_
  refine ww_aload_n (pc := 12) (i := 0) C 0 dX5_isSafeFor_12 rfl rfl ?_
  refine ww_get (pc := 13) C fl_X5_49 0 rfl rfl dX5_isSafeFor_13 ?_
  refine ww_icmp_ge (pc := 16) (tgt := 43) C dX5_isSafeFor_16 (by decide) (fun c4 => ?_) (fun c4 => ?_)
  · have hf := oa_ifp c4 hf
    refine ww_iconst (pc := 43) C dX5_isSafeFor_43 kc_1 ?_
    obtain rfl := Option.some.inj hf
    exact ww_zret (pc := 44) C kz_1 rfl dX5_isSafeFor_44
  · have hf := oa_ifn c4 hf
    refine ww_lload_n (pc := 19) (i := 3) C 2 dX5_isSafeFor_19 rfl rfl ?_
    refine ww_bipush (pc := 20) C dX5_isSafeFor_20 kb_6 ?_
    refine ww_iload (pc := 22) (i := 5) C 3 dX5_isSafeFor_22 rfl ?_
    refine ww_imul (pc := 24) C dX5_isSafeFor_24 ?_
    refine ww_iload_n (pc := 25) (i := 1) C 1 dX5_isSafeFor_25 rfl rfl ?_
    refine ww_iadd (pc := 26) C dX5_isSafeFor_26 ?_
    refine ww_lshr (pc := 27) C dX5_isSafeFor_27 ?_
    refine ww_lconst (pc := 28) C dX5_isSafeFor_28 kl_1 ?_
    refine ww_land (pc := 29) C dX5_isSafeFor_29 ?_
    refine ww_lconst (pc := 30) C dX5_isSafeFor_30 kl_0 ?_
    refine ww_lcmp (pc := 31) C dX5_isSafeFor_31 ?_
    refine ww_if_eq (pc := 32) (tgt := 37) C dX5_isSafeFor_32 (by decide) (fun c5 => ?_) (fun c5 => ?_)
    · have hf := oa_ifp c5 hf
      refine ww_iinc (pc := 37) (v := (x5 + 1)) (L' := [(0, .ref (h 0)), (1, .int x1), (3, .long x3), (5, .int (x5 + 1))]) C 3 [1, 2, 3, 0] dX5_isSafeFor_37 rfl (ki_1 _) (Nat.le_of_ble_eq_true rfl) rfl ?_
      refine ww_goto (pc := 40) (tgt := 10) C dX5_isSafeFor_40 (by decide) ?_
      exact hk10 (x5 + 1) hf
    · have hf := oa_ifn c5 hf
      refine ww_iconst (pc := 35) C dX5_isSafeFor_35 kc_0 ?_
      obtain rfl := Option.some.inj hf
      exact ww_zret (pc := 36) C kz_0 rfl dX5_isSafeFor_36
theorem t_l_X5_isSafeFor_10 {G : oa_G} {O : oa_O} {A : Nat → Prop} {h : Nat → Nat} {res : Int32} (C : oa_C G cX5_isSafeFor 6 RX5 (some .boolean) rm_X5_isSafeFor O A) (V : oa_I2) (x1 : Int32) (x2 : Int32) (x3 : Int64)   : ∀ (n : Nat) (x5 : Int32), l_X5_isSafeFor_10 V x1 x2 x3 n x5 = some res → ww G 6 O A (oa_Q G O A (0, 0) (some (.int res)) (fun W1 => W1 = wd_V O h V)) (0, 0) 10 [(0, .ref (h 0)), (1, .int x1), (3, .long x3), (5, .int x5)] [] (wd_V O h V) := by
  intro n
  induction n with
  | zero => intro x5 hf; exact absurd (show (none : Option (Int32)) = some res from hf) (fun h => nomatch h)
  | succ n ih =>
    intro x5 hf
    exact t_b_X5_isSafeFor_10 C V x1 x2 x3 (fun x5 => l_X5_isSafeFor_10 V x1 x2 x3 n x5)  (fun x5 h => ih x5 h) x5 hf
theorem m_X5_isSafeFor (l : Launch) (O : oa_O) (h : Nat → Nat) (V : oa_I2) (x1 : Int32) (x2 : Int32) (res : Int32) (hf : f_X5_isSafeFor V x1 x2 = some res) : oa_M l yX5_isSafeFor cX5_isSafeFor 6 (some .boolean) rm_X5_isSafeFor O [.ref (h 0), .int x1, .int x2] (wd_V O h V) (some (.int res)) (fun W1 => W1 = wd_V O h V) := by
  refine oa_Mof (by decide) (Nat.le_of_ble_eq_true rfl) (fun G A hl C => ?_)
  subst hl
  have C : oa_C G cX5_isSafeFor 6 RX5 (some .boolean) rm_X5_isSafeFor O A := C
  have hf : f_X5_isSafeFor V x1 x2 = some res := hf
  delta f_X5_isSafeFor at hf
  show ww G 6 O A (oa_Q G O A (0, 0) (some (.int res)) (fun W1 => W1 = wd_V O h V)) (0, 0) 0 [(0, .ref (h 0)), (1, .int x1), (2, .int x2)] [] (wd_V O h V)
  refine ww_aload_n (pc := 0) (i := 0) C 0 dX5_isSafeFor_0 rfl rfl ?_
  refine ww_iload_n (pc := 1) (i := 1) C 1 dX5_isSafeFor_1 rfl rfl ?_
  refine ww_iload_n (pc := 2) (i := 2) C 2 dX5_isSafeFor_2 rfl rfl ?_
  obtain ⟨y1, e2, hf⟩ := oa_bind hf
  refine ww_callV (pc := 3) (As := [.int x1, .int x2]) (rest := []) (wd := wd_V O h V) (ws' := wd_V O h V) (rv := (some (.long y1))) C hY_X5_openWrongsGuarded hV_X5_openWrongsGuarded lk_X5_159 (m_X5_openWrongsGuarded _ O h V x1 x2 _ e2) [0, 1, 2, 3, 4, 5] 0 rfl rfl rfl rfl rfl (oa_putS _ _ _ rfl) (fun _ h => h) ⟨rfl, rfl⟩ ⟨Nat.zero_le _, Nat.zero_le _⟩ ⟨Nat.le_of_ble_eq_true rfl, Nat.le_of_ble_eq_true rfl⟩ rfl (Nat.le_of_ble_eq_true rfl) rfl rfl dX5_isSafeFor_3 ?_
  refine ww_lstore_n (pc := 6) (L' := [(0, .ref (h 0)), (1, .int x1), (2, .int x2), (3, .long y1)]) C [1, 2, 3, 0] dX5_isSafeFor_6 rfl (Nat.le_of_ble_eq_true rfl) rfl ?_
  refine ww_iconst (pc := 7) C dX5_isSafeFor_7 kc_0 ?_
  refine ww_istore (pc := 8) (L' := [(0, .ref (h 0)), (1, .int x1), (2, .int x2), (3, .long y1), (5, .int 0)]) C [1, 2, 3, 4, 0] dX5_isSafeFor_8 (Nat.le_of_ble_eq_true rfl) rfl ?_
  refine ww_sub C [0, 1, 3, 4] rfl ?_
  exact t_l_X5_isSafeFor_10 C V x1 x2 y1   oa_fu 0 hf
theorem dX5_makeReady_0 : decode cX5_makeReady 0 = .ok (.iconst 0, 1) := by decide +kernel
theorem dX5_makeReady_1 : decode cX5_makeReady 1 = .ok (.istore_n 2, 1) := by decide +kernel
theorem dX5_makeReady_2 : decode cX5_makeReady 2 = .ok (.iload_n 2, 1) := by decide +kernel
theorem dX5_makeReady_3 : decode cX5_makeReady 3 = .ok (.aload_n 0, 1) := by decide +kernel
theorem dX5_makeReady_4 : decode cX5_makeReady 4 = .ok (.getfield 49, 3) := by decide +kernel
theorem dX5_makeReady_7 : decode cX5_makeReady 7 = .ok (.if_icmp .ge 30, 3) := by decide +kernel
theorem dX5_makeReady_10 : decode cX5_makeReady 10 = .ok (.aload_n 0, 1) := by decide +kernel
theorem dX5_makeReady_11 : decode cX5_makeReady 11 = .ok (.getfield 18, 3) := by decide +kernel
theorem dX5_makeReady_14 : decode cX5_makeReady 14 = .ok (.iload_n 2, 1) := by decide +kernel
theorem dX5_makeReady_15 : decode cX5_makeReady 15 = .ok (.iload_n 1, 1) := by decide +kernel
theorem dX5_makeReady_16 : decode cX5_makeReady 16 = .ok (.iload_n 2, 1) := by decide +kernel
theorem dX5_makeReady_17 : decode cX5_makeReady 17 = .ok (.ishr, 1) := by decide +kernel
theorem dX5_makeReady_18 : decode cX5_makeReady 18 = .ok (.iconst 1, 1) := by decide +kernel
theorem dX5_makeReady_19 : decode cX5_makeReady 19 = .ok (.iand, 1) := by decide +kernel
theorem dX5_makeReady_20 : decode cX5_makeReady 20 = .ok (.ifCond .eq 7, 3) := by decide +kernel
theorem dX5_makeReady_23 : decode cX5_makeReady 23 = .ok (.iconst 0, 1) := by decide +kernel
theorem dX5_makeReady_24 : decode cX5_makeReady 24 = .ok (.goto 6, 3) := by decide +kernel
theorem dX5_makeReady_27 : decode cX5_makeReady 27 = .ok (.sipush 192, 3) := by decide +kernel
theorem dX5_makeReady_30 : decode cX5_makeReady 30 = .ok (.iastore, 1) := by decide +kernel
theorem dX5_makeReady_31 : decode cX5_makeReady 31 = .ok (.iinc 2 1, 3) := by decide +kernel
theorem dX5_makeReady_34 : decode cX5_makeReady 34 = .ok (.goto (-32), 3) := by decide +kernel
theorem dX5_makeReady_37 : decode cX5_makeReady 37 = .ok (.return_, 1) := by decide +kernel
abbrev rm_X5_makeReady : Room := { frames := 0, cells := 0, slots := 0, locals := 0 }
theorem t_b_X5_makeReady_30 {G : oa_G} {O : oa_O} {A : Nat → Prop} {h : Nat → Nat} {res : oa_I2} (C : oa_C G cX5_makeReady 3 RX5 none rm_X5_makeReady O A) (x1 : Int32)  (V : oa_I2) (x2 : Int32) (s1 : Int32) (s2 : Int32) (k2 : oa_I2 → Int32 → Option (oa_I2)) (hk2 : ∀ (b_V : oa_I2) (b_x2 : Int32), k2 b_V b_x2 = some res → ww G 3 O A (oa_Q G O A (0, 0) none (fun W1 => W1 = wd_V O h res)) (0, 0) 2 [(0, .ref (h 0)), (1, .int x1), (2, .int b_x2)] [] (wd_V O h b_V))  (hf : b_X5_makeReady_30 x1 k2 V x2 s1 s2 = some res) : ww G 3 O A (oa_Q G O A (0, 0) none (fun W1 => W1 = wd_V O h res)) (0, 0) 30 [(0, .ref (h 0)), (1, .int x1), (2, .int x2)] [.int s2, .int s1, .ref (h 3)] (wd_V O h V) := by
  delta b_X5_makeReady_30 at hf
  obtain ⟨g3, e4, hf⟩ := oa_bind hf
  obtain ⟨V5, e6, hf⟩ := oa_letE hf
  refine ww_iast (pc := 30) C (fun Z => wd_V O h Z) 3 rfl e4 e6 rfl dX5_makeReady_30 ?_
  refine ww_iinc (pc := 31) (v := (x2 + 1)) (L' := [(0, .ref (h 0)), (1, .int x1), (2, .int (x2 + 1))]) C 2 [1, 2, 0] dX5_makeReady_31 rfl (ki_1 _) (Nat.le_of_ble_eq_true rfl) rfl ?_
  refine ww_goto (pc := 34) (tgt := 2) C dX5_makeReady_34 (by decide) ?_
  exact hk2 V5 (x2 + 1) hf
theorem t_b_X5_makeReady_2 {G : oa_G} {O : oa_O} {A : Nat → Prop} {h : Nat → Nat} {res : oa_I2} (C : oa_C G cX5_makeReady 3 RX5 none rm_X5_makeReady O A) (x1 : Int32)    (k2 : oa_I2 → Int32 → Option (oa_I2))  (hk2 : ∀ (b_V : oa_I2) (b_x2 : Int32), k2 b_V b_x2 = some res → ww G 3 O A (oa_Q G O A (0, 0) none (fun W1 => W1 = wd_V O h res)) (0, 0) 2 [(0, .ref (h 0)), (1, .int x1), (2, .int b_x2)] [] (wd_V O h b_V)) (V : oa_I2) (x2 : Int32) (hf : b_X5_makeReady_2 x1 k2 V x2 = some res) : ww G 3 O A (oa_Q G O A (0, 0) none (fun W1 => W1 = wd_V O h res)) (0, 0) 2 [(0, .ref (h 0)), (1, .int x1), (2, .int x2)] [] (wd_V O h V) := by
  delta b_X5_makeReady_2 at hf
  refine ww_iload_n (pc := 2) (i := 2) C 2 dX5_makeReady_2 rfl rfl ?_
  refine ww_aload_n (pc := 3) (i := 0) C 0 dX5_makeReady_3 rfl rfl ?_
  refine ww_get (pc := 4) C fl_X5_49 0 rfl rfl dX5_makeReady_4 ?_
  refine ww_icmp_ge (pc := 7) (tgt := 37) C dX5_makeReady_7 (by decide) (fun c1 => ?_) (fun c1 => ?_)
  · have hf := oa_ifp c1 hf
    obtain rfl := Option.some.inj hf
    exact ww_vret (pc := 37) C rfl dX5_makeReady_37
  · have hf := oa_ifn c1 hf
    refine ww_aload_n (pc := 10) (i := 0) C 0 dX5_makeReady_10 rfl rfl ?_
    refine ww_get (pc := 11) C fl_X5_18 0 rfl rfl dX5_makeReady_11 ?_
    refine ww_iload_n (pc := 14) (i := 2) C 2 dX5_makeReady_14 rfl rfl ?_
    refine ww_iload_n (pc := 15) (i := 1) C 1 dX5_makeReady_15 rfl rfl ?_
    refine ww_iload_n (pc := 16) (i := 2) C 2 dX5_makeReady_16 rfl rfl ?_
    refine ww_ishr (pc := 17) C dX5_makeReady_17 ?_
    refine ww_iconst (pc := 18) C dX5_makeReady_18 kc_1 ?_
    refine ww_iand (pc := 19) C dX5_makeReady_19 ?_
    refine ww_if_eq (pc := 20) (tgt := 27) C dX5_makeReady_20 (by decide) (fun c2 => ?_) (fun c2 => ?_)
    · have hf := oa_ifp c2 hf
      refine ww_sipush (pc := 27) C dX5_makeReady_27 ks_192 ?_
      exact t_b_X5_makeReady_30 C x1 V x2 x2 192 k2 hk2 hf
    · have hf := oa_ifn c2 hf
      refine ww_iconst (pc := 23) C dX5_makeReady_23 kc_0 ?_
      refine ww_goto (pc := 24) (tgt := 30) C dX5_makeReady_24 (by decide) ?_
      exact t_b_X5_makeReady_30 C x1 V x2 x2 0 k2 hk2 hf
theorem t_l_X5_makeReady_2 {G : oa_G} {O : oa_O} {A : Nat → Prop} {h : Nat → Nat} {res : oa_I2} (C : oa_C G cX5_makeReady 3 RX5 none rm_X5_makeReady O A) (x1 : Int32)    : ∀ (n : Nat) (V : oa_I2) (x2 : Int32), l_X5_makeReady_2 x1 n V x2 = some res → ww G 3 O A (oa_Q G O A (0, 0) none (fun W1 => W1 = wd_V O h res)) (0, 0) 2 [(0, .ref (h 0)), (1, .int x1), (2, .int x2)] [] (wd_V O h V) := by
  intro n
  induction n with
  | zero => intro V x2 hf; exact absurd (show (none : Option (oa_I2)) = some res from hf) (fun h => nomatch h)
  | succ n ih =>
    intro V x2 hf
    exact t_b_X5_makeReady_2 C x1  (fun V x2 => l_X5_makeReady_2 x1 n V x2)  (fun V x2 h => ih V x2 h) V x2 hf
theorem m_X5_makeReady (l : Launch) (O : oa_O) (h : Nat → Nat) (V : oa_I2) (x1 : Int32) (res : oa_I2) (hf : f_X5_makeReady V x1 = some res) : oa_M l yX5_makeReady cX5_makeReady 3 none rm_X5_makeReady O [.ref (h 0), .int x1] (wd_V O h V) none (fun W1 => W1 = wd_V O h res) := by
  refine oa_Mof (by decide) (Nat.le_of_ble_eq_true rfl) (fun G A hl C => ?_)
  subst hl
  have C : oa_C G cX5_makeReady 3 RX5 none rm_X5_makeReady O A := C
  have hf : f_X5_makeReady V x1 = some res := hf
  delta f_X5_makeReady at hf
  show ww G 3 O A (oa_Q G O A (0, 0) none (fun W1 => W1 = wd_V O h res)) (0, 0) 0 [(0, .ref (h 0)), (1, .int x1)] [] (wd_V O h V)
  refine ww_iconst (pc := 0) C dX5_makeReady_0 kc_0 ?_
  refine ww_istore_n (pc := 1) (L' := [(0, .ref (h 0)), (1, .int x1), (2, .int 0)]) C [1, 2, 0] dX5_makeReady_1 rfl (Nat.le_of_ble_eq_true rfl) rfl ?_
  exact t_l_X5_makeReady_2 C x1    oa_fu V 0 hf
theorem dX5_openWrongs_0 : decode cX5_openWrongs 0 = .ok (.aload_n 0, 1) := by decide +kernel
theorem dX5_openWrongs_1 : decode cX5_openWrongs 1 = .ok (.bipush (-4), 2) := by decide +kernel
theorem dX5_openWrongs_3 : decode cX5_openWrongs 3 = .ok (.iconst 0, 1) := by decide +kernel
theorem dX5_openWrongs_4 : decode cX5_openWrongs 4 = .ok (.invokevirtual 159, 3) := by decide +kernel
theorem dX5_openWrongs_7 : decode cX5_openWrongs 7 = .ok (.lreturn, 1) := by decide +kernel
abbrev rm_X5_openWrongs : Room := { frames := 5, cells := 0, slots := 0, locals := 116 }
theorem m_X5_openWrongs (l : Launch) (O : oa_O) (h : Nat → Nat) (V : oa_I2)  (res : Int64) (hf : f_X5_openWrongs V = some res) : oa_M l yX5_openWrongs cX5_openWrongs 1 (some .long) rm_X5_openWrongs O [.ref (h 0)] (wd_V O h V) (some (.long res)) (fun W1 => W1 = wd_V O h V) := by
  refine oa_Mof (by decide) (Nat.le_of_ble_eq_true rfl) (fun G A hl C => ?_)
  subst hl
  have C : oa_C G cX5_openWrongs 1 RX5 (some .long) rm_X5_openWrongs O A := C
  have hf : f_X5_openWrongs V = some res := hf
  delta f_X5_openWrongs at hf
  show ww G 1 O A (oa_Q G O A (0, 0) (some (.long res)) (fun W1 => W1 = wd_V O h V)) (0, 0) 0 [(0, .ref (h 0))] [] (wd_V O h V)
  refine ww_aload_n (pc := 0) (i := 0) C 0 dX5_openWrongs_0 rfl rfl ?_
  refine ww_bipush (pc := 1) C dX5_openWrongs_1 kb_m4 ?_
  refine ww_iconst (pc := 3) C dX5_openWrongs_3 kc_0 ?_
  obtain ⟨y1, e2, hf⟩ := oa_bind hf
  refine ww_callV (pc := 4) (As := [.int (-4), .int 0]) (rest := []) (wd := wd_V O h V) (ws' := wd_V O h V) (rv := (some (.long y1))) C hY_X5_openWrongsGuarded hV_X5_openWrongsGuarded lk_X5_159 (m_X5_openWrongsGuarded _ O h V (-4) 0 _ e2) [0, 1, 2, 3, 4, 5] 0 rfl rfl rfl rfl rfl (oa_putS _ _ _ rfl) (fun _ h => h) ⟨rfl, rfl⟩ ⟨Nat.zero_le _, Nat.zero_le _⟩ ⟨Nat.le_of_ble_eq_true rfl, Nat.le_of_ble_eq_true rfl⟩ rfl (Nat.le_of_ble_eq_true rfl) rfl rfl dX5_openWrongs_4 ?_
  obtain rfl := Option.some.inj hf
  exact ww_lret (pc := 7) C rfl dX5_openWrongs_7
theorem dX5_wrongAll_0 : decode cX5_wrongAll 0 = .ok (.aload_n 0, 1) := by decide +kernel
theorem dX5_wrongAll_1 : decode cX5_wrongAll 1 = .ok (.iconst 0, 1) := by decide +kernel
theorem dX5_wrongAll_2 : decode cX5_wrongAll 2 = .ok (.putfield 129, 3) := by decide +kernel
theorem dX5_wrongAll_5 : decode cX5_wrongAll 5 = .ok (.iconst 0, 1) := by decide +kernel
theorem dX5_wrongAll_6 : decode cX5_wrongAll 6 = .ok (.istore_n 1, 1) := by decide +kernel
theorem dX5_wrongAll_7 : decode cX5_wrongAll 7 = .ok (.iload_n 1, 1) := by decide +kernel
theorem dX5_wrongAll_8 : decode cX5_wrongAll 8 = .ok (.aload_n 0, 1) := by decide +kernel
theorem dX5_wrongAll_9 : decode cX5_wrongAll 9 = .ok (.getfield 49, 3) := by decide +kernel
theorem dX5_wrongAll_12 : decode cX5_wrongAll 12 = .ok (.if_icmp .ge 69, 3) := by decide +kernel
theorem dX5_wrongAll_15 : decode cX5_wrongAll 15 = .ok (.aload_n 0, 1) := by decide +kernel
theorem dX5_wrongAll_16 : decode cX5_wrongAll 16 = .ok (.iload_n 1, 1) := by decide +kernel
theorem dX5_wrongAll_17 : decode cX5_wrongAll 17 = .ok (.aload_n 0, 1) := by decide +kernel
theorem dX5_wrongAll_18 : decode cX5_wrongAll 18 = .ok (.iload_n 1, 1) := by decide +kernel
theorem dX5_wrongAll_19 : decode cX5_wrongAll 19 = .ok (.invokevirtual 141, 3) := by decide +kernel
theorem dX5_wrongAll_22 : decode cX5_wrongAll 22 = .ok (.invokevirtual 144, 3) := by decide +kernel
theorem dX5_wrongAll_25 : decode cX5_wrongAll 25 = .ok (.istore_n 2, 1) := by decide +kernel
theorem dX5_wrongAll_26 : decode cX5_wrongAll 26 = .ok (.iload_n 2, 1) := by decide +kernel
theorem dX5_wrongAll_27 : decode cX5_wrongAll 27 = .ok (.bipush (-4), 2) := by decide +kernel
theorem dX5_wrongAll_29 : decode cX5_wrongAll 29 = .ok (.if_icmp .eq 46, 3) := by decide +kernel
theorem dX5_wrongAll_32 : decode cX5_wrongAll 32 = .ok (.aload_n 0, 1) := by decide +kernel
theorem dX5_wrongAll_33 : decode cX5_wrongAll 33 = .ok (.iload_n 1, 1) := by decide +kernel
theorem dX5_wrongAll_34 : decode cX5_wrongAll 34 = .ok (.iload_n 2, 1) := by decide +kernel
theorem dX5_wrongAll_35 : decode cX5_wrongAll 35 = .ok (.invokevirtual 147, 3) := by decide +kernel
theorem dX5_wrongAll_38 : decode cX5_wrongAll 38 = .ok (.aload_n 0, 1) := by decide +kernel
theorem dX5_wrongAll_39 : decode cX5_wrongAll 39 = .ok (.dup, 1) := by decide +kernel
theorem dX5_wrongAll_40 : decode cX5_wrongAll 40 = .ok (.getfield 129, 3) := by decide +kernel
theorem dX5_wrongAll_43 : decode cX5_wrongAll 43 = .ok (.iconst 1, 1) := by decide +kernel
theorem dX5_wrongAll_44 : decode cX5_wrongAll 44 = .ok (.iload_n 1, 1) := by decide +kernel
theorem dX5_wrongAll_45 : decode cX5_wrongAll 45 = .ok (.ishl, 1) := by decide +kernel
theorem dX5_wrongAll_46 : decode cX5_wrongAll 46 = .ok (.ior, 1) := by decide +kernel
theorem dX5_wrongAll_47 : decode cX5_wrongAll 47 = .ok (.putfield 129, 3) := by decide +kernel
theorem dX5_wrongAll_50 : decode cX5_wrongAll 50 = .ok (.aload_n 0, 1) := by decide +kernel
theorem dX5_wrongAll_51 : decode cX5_wrongAll 51 = .ok (.dup, 1) := by decide +kernel
theorem dX5_wrongAll_52 : decode cX5_wrongAll 52 = .ok (.getfield 59, 3) := by decide +kernel
theorem dX5_wrongAll_55 : decode cX5_wrongAll 55 = .ok (.iconst 1, 1) := by decide +kernel
theorem dX5_wrongAll_56 : decode cX5_wrongAll 56 = .ok (.iadd, 1) := by decide +kernel
theorem dX5_wrongAll_57 : decode cX5_wrongAll 57 = .ok (.putfield 59, 3) := by decide +kernel
theorem dX5_wrongAll_60 : decode cX5_wrongAll 60 = .ok (.aload_n 0, 1) := by decide +kernel
theorem dX5_wrongAll_61 : decode cX5_wrongAll 61 = .ok (.dup, 1) := by decide +kernel
theorem dX5_wrongAll_62 : decode cX5_wrongAll 62 = .ok (.getfield 56, 3) := by decide +kernel
theorem dX5_wrongAll_65 : decode cX5_wrongAll 65 = .ok (.aload_n 0, 1) := by decide +kernel
theorem dX5_wrongAll_66 : decode cX5_wrongAll 66 = .ok (.iconst 2, 1) := by decide +kernel
theorem dX5_wrongAll_67 : decode cX5_wrongAll 67 = .ok (.iload_n 2, 1) := by decide +kernel
theorem dX5_wrongAll_68 : decode cX5_wrongAll 68 = .ok (.invokevirtual 70, 3) := by decide +kernel
theorem dX5_wrongAll_71 : decode cX5_wrongAll 71 = .ok (.iadd, 1) := by decide +kernel
theorem dX5_wrongAll_72 : decode cX5_wrongAll 72 = .ok (.putfield 56, 3) := by decide +kernel
theorem dX5_wrongAll_75 : decode cX5_wrongAll 75 = .ok (.iinc 1 1, 3) := by decide +kernel
theorem dX5_wrongAll_78 : decode cX5_wrongAll 78 = .ok (.goto (-71), 3) := by decide +kernel
theorem dX5_wrongAll_81 : decode cX5_wrongAll 81 = .ok (.return_, 1) := by decide +kernel
abbrev rm_X5_wrongAll : Room := { frames := 5, cells := 0, slots := 0, locals := 115 }
theorem t_b_X5_wrongAll_7 {G : oa_G} {O : oa_O} {A : Nat → Prop} {h : Nat → Nat} {res : oa_I2} (C : oa_C G cX5_wrongAll 3 RX5 none rm_X5_wrongAll O A)     (k7 : oa_I2 → Int32 → Option (oa_I2))  (hk7 : ∀ (b_V : oa_I2) (b_x1 : Int32), k7 b_V b_x1 = some res → ww G 3 O A (oa_Q G O A (0, 0) none (fun W1 => W1 = wd_V O h res)) (0, 0) 7 [(0, .ref (h 0)), (1, .int b_x1)] [] (wd_V O h b_V)) (V : oa_I2) (x1 : Int32) (hf : b_X5_wrongAll_7 k7 V x1 = some res) : ww G 3 O A (oa_Q G O A (0, 0) none (fun W1 => W1 = wd_V O h res)) (0, 0) 7 [(0, .ref (h 0)), (1, .int x1)] [] (wd_V O h V) := by
  delta b_X5_wrongAll_7 at hf
  refine ww_iload_n (pc := 7) (i := 1) C 1 dX5_wrongAll_7 rfl rfl ?_
  refine ww_aload_n (pc := 8) (i := 0) C 0 dX5_wrongAll_8 rfl rfl ?_
  refine ww_get (pc := 9) C fl_X5_49 0 rfl rfl dX5_wrongAll_9 ?_
  refine ww_icmp_ge (pc := 12) (tgt := 81) C dX5_wrongAll_12 (by decide) (fun c3 => ?_) (fun c3 => ?_)
  · have hf := oa_ifp c3 hf
    obtain rfl := Option.some.inj hf
    exact ww_vret (pc := 81) C rfl dX5_wrongAll_81
  · have hf := oa_ifn c3 hf
    refine ww_aload_n (pc := 15) (i := 0) C 0 dX5_wrongAll_15 rfl rfl ?_
    refine ww_iload_n (pc := 16) (i := 1) C 1 dX5_wrongAll_16 rfl rfl ?_
    refine ww_aload_n (pc := 17) (i := 0) C 0 dX5_wrongAll_17 rfl rfl ?_
    refine ww_iload_n (pc := 18) (i := 1) C 1 dX5_wrongAll_18 rfl rfl ?_
    obtain ⟨y4, e5, hf⟩ := oa_bind hf
    refine ww_callV (pc := 19) (As := [.int x1]) (rest := [.int x1, .ref (h 0)]) (wd := wd_V O h V) (ws' := wd_V O h V) (rv := (some (.int y4))) C hY_X5_ableAsSeen hV_X5_ableAsSeen lk_X5_141 (m_X5_ableAsSeen _ O h V x1 _ e5) [0, 1, 2, 3, 4, 5] 0 rfl rfl rfl rfl rfl (oa_putS _ _ _ rfl) (fun _ h => h) ⟨rfl, rfl⟩ ⟨Nat.zero_le _, Nat.zero_le _⟩ ⟨Nat.le_of_ble_eq_true rfl, Nat.le_of_ble_eq_true rfl⟩ rfl (Nat.le_of_ble_eq_true rfl) rfl rfl dX5_wrongAll_19 ?_
    obtain ⟨y7, e8, hf⟩ := oa_bind hf
    refine ww_callV (pc := 22) (As := [.int x1, .int y4]) (rest := []) (wd := wd_V O h V) (ws' := wd_V O h V) (rv := (some (.int y7))) C hY_X5_choice hV_X5_choice lk_X5_144 (m_X5_choice _ O h V x1 y4 _ e8) [0, 1, 2, 3, 4, 5] 0 rfl rfl rfl rfl rfl (oa_putS _ _ _ rfl) (fun _ h => h) ⟨rfl, rfl⟩ ⟨Nat.zero_le _, Nat.zero_le _⟩ ⟨Nat.le_of_ble_eq_true rfl, Nat.le_of_ble_eq_true rfl⟩ rfl (Nat.le_of_ble_eq_true rfl) rfl rfl dX5_wrongAll_22 ?_
    refine ww_istore_n (pc := 25) (L' := [(0, .ref (h 0)), (1, .int x1), (2, .int y7)]) C [1, 2, 0] dX5_wrongAll_25 rfl (Nat.le_of_ble_eq_true rfl) rfl ?_
    refine ww_iload_n (pc := 26) (i := 2) C 2 dX5_wrongAll_26 rfl rfl ?_
    refine ww_bipush (pc := 27) C dX5_wrongAll_27 kb_m4 ?_
    refine ww_icmp_eq (pc := 29) (tgt := 75) C dX5_wrongAll_29 (by decide) (fun c10 => ?_) (fun c10 => ?_)
    · have hf := oa_ifp c10 hf
      refine ww_iinc (pc := 75) (v := (x1 + 1)) (L' := [(0, .ref (h 0)), (1, .int (x1 + 1)), (2, .int y7)]) C 1 [1, 0, 2] dX5_wrongAll_75 rfl (ki_1 _) (Nat.le_of_ble_eq_true rfl) rfl ?_
      refine ww_goto (pc := 78) (tgt := 7) C dX5_wrongAll_78 (by decide) ?_
      refine ww_sub C [0, 1] rfl ?_
      exact hk7 V (x1 + 1) hf
    · have hf := oa_ifn c10 hf
      refine ww_aload_n (pc := 32) (i := 0) C 0 dX5_wrongAll_32 rfl rfl ?_
      refine ww_iload_n (pc := 33) (i := 1) C 1 dX5_wrongAll_33 rfl rfl ?_
      refine ww_iload_n (pc := 34) (i := 2) C 2 dX5_wrongAll_34 rfl rfl ?_
      obtain ⟨V11, e12, hf⟩ := oa_bind hf
      refine ww_callV (pc := 35) (As := [.int x1, .int y7]) (rest := []) (wd := wd_V O h V11) (ws' := wd_V O h V11) (rv := none) C hY_X5_doWrong hV_X5_doWrong lk_X5_147 (m_X5_doWrong _ O h V x1 y7 _ e12) [0, 1, 2, 3, 4, 5] 0 rfl rfl rfl rfl rfl rfl (fun _ h => h) ⟨rfl, rfl⟩ ⟨Nat.zero_le _, Nat.zero_le _⟩ ⟨Nat.le_of_ble_eq_true rfl, Nat.le_of_ble_eq_true rfl⟩ rfl (Nat.le_of_ble_eq_true rfl) rfl rfl dX5_wrongAll_35 ?_
      refine ww_aload_n (pc := 38) (i := 0) C 0 dX5_wrongAll_38 rfl rfl ?_
      refine ww_dup (pc := 39) C dX5_wrongAll_39 rfl ?_
      refine ww_get (pc := 40) C fl_X5_129 0 rfl rfl dX5_wrongAll_40 ?_
      refine ww_iconst (pc := 43) C dX5_wrongAll_43 kc_1 ?_
      refine ww_iload_n (pc := 44) (i := 1) C 1 dX5_wrongAll_44 rfl rfl ?_
      refine ww_ishl (pc := 45) C dX5_wrongAll_45 ?_
      refine ww_ior (pc := 46) C dX5_wrongAll_46 ?_
      obtain ⟨V14, e15, hf⟩ := oa_letE hf
      refine ww_put (pc := 47) C fl_X5_129 (fun Z => wd_V O h Z) 0 rfl rfl rfl (Nat.le_of_ble_eq_true rfl) e15 rfl dX5_wrongAll_47 ?_
      refine ww_aload_n (pc := 50) (i := 0) C 0 dX5_wrongAll_50 rfl rfl ?_
      refine ww_dup (pc := 51) C dX5_wrongAll_51 rfl ?_
      refine ww_get (pc := 52) C fl_X5_59 0 rfl rfl dX5_wrongAll_52 ?_
      refine ww_iconst (pc := 55) C dX5_wrongAll_55 kc_1 ?_
      refine ww_iadd (pc := 56) C dX5_wrongAll_56 ?_
      obtain ⟨V16, e17, hf⟩ := oa_letE hf
      refine ww_put (pc := 57) C fl_X5_59 (fun Z => wd_V O h Z) 0 rfl rfl rfl (Nat.le_of_ble_eq_true rfl) e17 rfl dX5_wrongAll_57 ?_
      refine ww_aload_n (pc := 60) (i := 0) C 0 dX5_wrongAll_60 rfl rfl ?_
      refine ww_dup (pc := 61) C dX5_wrongAll_61 rfl ?_
      refine ww_get (pc := 62) C fl_X5_56 0 rfl rfl dX5_wrongAll_62 ?_
      refine ww_aload_n (pc := 65) (i := 0) C 0 dX5_wrongAll_65 rfl rfl ?_
      refine ww_iconst (pc := 66) C dX5_wrongAll_66 kc_2 ?_
      refine ww_iload_n (pc := 67) (i := 2) C 2 dX5_wrongAll_67 rfl rfl ?_
      obtain ⟨y18, e19, hf⟩ := oa_bind hf
      refine ww_callV (pc := 68) (As := [.int 2, .int y7]) (rest := [.int (V16 5 2), .ref (h 0)]) (wd := wd_V O h V16) (ws' := wd_V O h V16) (rv := (some (.int y18))) C hY_X5_trait hV_X5_trait lk_X5_70 (m_X5_trait _ O h V16 2 y7 _ e19) [0, 1, 2, 3, 4, 5] 0 rfl rfl rfl rfl rfl (oa_putS _ _ _ rfl) (fun _ h => h) ⟨rfl, rfl⟩ ⟨Nat.zero_le _, Nat.zero_le _⟩ ⟨Nat.le_of_ble_eq_true rfl, Nat.le_of_ble_eq_true rfl⟩ rfl (Nat.le_of_ble_eq_true rfl) rfl rfl dX5_wrongAll_68 ?_
      refine ww_iadd (pc := 71) C dX5_wrongAll_71 ?_
      obtain ⟨V21, e22, hf⟩ := oa_letE hf
      refine ww_put (pc := 72) C fl_X5_56 (fun Z => wd_V O h Z) 0 rfl rfl rfl (Nat.le_of_ble_eq_true rfl) e22 rfl dX5_wrongAll_72 ?_
      refine ww_iinc (pc := 75) (v := (x1 + 1)) (L' := [(0, .ref (h 0)), (1, .int (x1 + 1)), (2, .int y7)]) C 1 [1, 0, 2] dX5_wrongAll_75 rfl (ki_1 _) (Nat.le_of_ble_eq_true rfl) rfl ?_
      refine ww_goto (pc := 78) (tgt := 7) C dX5_wrongAll_78 (by decide) ?_
      refine ww_sub C [0, 1] rfl ?_
      exact hk7 V21 (x1 + 1) hf
theorem t_l_X5_wrongAll_7 {G : oa_G} {O : oa_O} {A : Nat → Prop} {h : Nat → Nat} {res : oa_I2} (C : oa_C G cX5_wrongAll 3 RX5 none rm_X5_wrongAll O A)     : ∀ (n : Nat) (V : oa_I2) (x1 : Int32), l_X5_wrongAll_7  n V x1 = some res → ww G 3 O A (oa_Q G O A (0, 0) none (fun W1 => W1 = wd_V O h res)) (0, 0) 7 [(0, .ref (h 0)), (1, .int x1)] [] (wd_V O h V) := by
  intro n
  induction n with
  | zero => intro V x1 hf; exact absurd (show (none : Option (oa_I2)) = some res from hf) (fun h => nomatch h)
  | succ n ih =>
    intro V x1 hf
    exact t_b_X5_wrongAll_7 C   (fun V x1 => l_X5_wrongAll_7  n V x1)  (fun V x1 h => ih V x1 h) V x1 hf
theorem m_X5_wrongAll (l : Launch) (O : oa_O) (h : Nat → Nat) (V : oa_I2)  (res : oa_I2) (hf : f_X5_wrongAll V = some res) : oa_M l yX5_wrongAll cX5_wrongAll 3 none rm_X5_wrongAll O [.ref (h 0)] (wd_V O h V) none (fun W1 => W1 = wd_V O h res) := by
  refine oa_Mof (by decide) (Nat.le_of_ble_eq_true rfl) (fun G A hl C => ?_)
  subst hl
  have C : oa_C G cX5_wrongAll 3 RX5 none rm_X5_wrongAll O A := C
  have hf : f_X5_wrongAll V = some res := hf
  delta f_X5_wrongAll at hf
  show ww G 3 O A (oa_Q G O A (0, 0) none (fun W1 => W1 = wd_V O h res)) (0, 0) 0 [(0, .ref (h 0))] [] (wd_V O h V)
  refine ww_aload_n (pc := 0) (i := 0) C 0 dX5_wrongAll_0 rfl rfl ?_
  refine ww_iconst (pc := 1) C dX5_wrongAll_1 kc_0 ?_
  obtain ⟨V1, e2, hf⟩ := oa_letE hf
  refine ww_put (pc := 2) C fl_X5_129 (fun Z => wd_V O h Z) 0 rfl rfl rfl (Nat.le_of_ble_eq_true rfl) e2 rfl dX5_wrongAll_2 ?_
  refine ww_iconst (pc := 5) C dX5_wrongAll_5 kc_0 ?_
  refine ww_istore_n (pc := 6) (L' := [(0, .ref (h 0)), (1, .int 0)]) C [1, 0] dX5_wrongAll_6 rfl (Nat.le_of_ble_eq_true rfl) rfl ?_
  exact t_l_X5_wrongAll_7 C     oa_fu V1 0 hf
theorem dX5_passWeeks_0 : decode cX5_passWeeks 0 = .ok (.aload_n 0, 1) := by decide +kernel
theorem dX5_passWeeks_1 : decode cX5_passWeeks 1 = .ok (.getfield 56, 3) := by decide +kernel
theorem dX5_passWeeks_4 : decode cX5_passWeeks 4 = .ok (.istore_n 2, 1) := by decide +kernel
theorem dX5_passWeeks_5 : decode cX5_passWeeks 5 = .ok (.aload_n 0, 1) := by decide +kernel
theorem dX5_passWeeks_6 : decode cX5_passWeeks 6 = .ok (.iconst 0, 1) := by decide +kernel
theorem dX5_passWeeks_7 : decode cX5_passWeeks 7 = .ok (.putfield 129, 3) := by decide +kernel
theorem dX5_passWeeks_10 : decode cX5_passWeeks 10 = .ok (.iconst 0, 1) := by decide +kernel
theorem dX5_passWeeks_11 : decode cX5_passWeeks 11 = .ok (.istore_n 3, 1) := by decide +kernel
theorem dX5_passWeeks_12 : decode cX5_passWeeks 12 = .ok (.iload_n 3, 1) := by decide +kernel
theorem dX5_passWeeks_13 : decode cX5_passWeeks 13 = .ok (.iload_n 1, 1) := by decide +kernel
theorem dX5_passWeeks_14 : decode cX5_passWeeks 14 = .ok (.if_icmp .ge 31, 3) := by decide +kernel
theorem dX5_passWeeks_17 : decode cX5_passWeeks 17 = .ok (.aload_n 0, 1) := by decide +kernel
theorem dX5_passWeeks_18 : decode cX5_passWeeks 18 = .ok (.invokevirtual 132, 3) := by decide +kernel
theorem dX5_passWeeks_21 : decode cX5_passWeeks 21 = .ok (.aload_n 0, 1) := by decide +kernel
theorem dX5_passWeeks_22 : decode cX5_passWeeks 22 = .ok (.invokevirtual 135, 3) := by decide +kernel
theorem dX5_passWeeks_25 : decode cX5_passWeeks 25 = .ok (.aload_n 0, 1) := by decide +kernel
theorem dX5_passWeeks_26 : decode cX5_passWeeks 26 = .ok (.invokevirtual 138, 3) := by decide +kernel
theorem dX5_passWeeks_29 : decode cX5_passWeeks 29 = .ok (.aload_n 0, 1) := by decide +kernel
theorem dX5_passWeeks_30 : decode cX5_passWeeks 30 = .ok (.dup, 1) := by decide +kernel
theorem dX5_passWeeks_31 : decode cX5_passWeeks 31 = .ok (.getfield 53, 3) := by decide +kernel
theorem dX5_passWeeks_34 : decode cX5_passWeeks 34 = .ok (.iconst 1, 1) := by decide +kernel
theorem dX5_passWeeks_35 : decode cX5_passWeeks 35 = .ok (.iadd, 1) := by decide +kernel
theorem dX5_passWeeks_36 : decode cX5_passWeeks 36 = .ok (.putfield 53, 3) := by decide +kernel
theorem dX5_passWeeks_39 : decode cX5_passWeeks 39 = .ok (.iinc 3 1, 3) := by decide +kernel
theorem dX5_passWeeks_42 : decode cX5_passWeeks 42 = .ok (.goto (-30), 3) := by decide +kernel
theorem dX5_passWeeks_45 : decode cX5_passWeeks 45 = .ok (.aload_n 0, 1) := by decide +kernel
theorem dX5_passWeeks_46 : decode cX5_passWeeks 46 = .ok (.getfield 56, 3) := by decide +kernel
theorem dX5_passWeeks_49 : decode cX5_passWeeks 49 = .ok (.iload_n 2, 1) := by decide +kernel
theorem dX5_passWeeks_50 : decode cX5_passWeeks 50 = .ok (.isub, 1) := by decide +kernel
theorem dX5_passWeeks_51 : decode cX5_passWeeks 51 = .ok (.ireturn, 1) := by decide +kernel
abbrev rm_X5_passWeeks : Room := { frames := 6, cells := 0, slots := 0, locals := 137 }
theorem t_b_X5_passWeeks_12 {G : oa_G} {O : oa_O} {A : Nat → Prop} {h : Nat → Nat} {res : Int32 × oa_I2} (C : oa_C G cX5_passWeeks 4 RX5 (some .int) rm_X5_passWeeks O A) (x1 : Int32) (x2 : Int32)   (k12 : oa_I2 → Int32 → Option (Int32 × oa_I2))  (hk12 : ∀ (b_V : oa_I2) (b_x3 : Int32), k12 b_V b_x3 = some res → ww G 4 O A (oa_Q G O A (0, 0) (some (.int res.1)) (fun W1 => W1 = wd_V O h res.2)) (0, 0) 12 [(0, .ref (h 0)), (1, .int x1), (2, .int x2), (3, .int b_x3)] [] (wd_V O h b_V)) (V : oa_I2) (x3 : Int32) (hf : b_X5_passWeeks_12 x1 x2 k12 V x3 = some res) : ww G 4 O A (oa_Q G O A (0, 0) (some (.int res.1)) (fun W1 => W1 = wd_V O h res.2)) (0, 0) 12 [(0, .ref (h 0)), (1, .int x1), (2, .int x2), (3, .int x3)] [] (wd_V O h V) := by
  delta b_X5_passWeeks_12 at hf
  refine ww_iload_n (pc := 12) (i := 3) C 3 dX5_passWeeks_12 rfl rfl ?_
  refine ww_iload_n (pc := 13) (i := 1) C 1 dX5_passWeeks_13 rfl rfl ?_
  refine ww_icmp_ge (pc := 14) (tgt := 45) C dX5_passWeeks_14 (by decide) (fun c5 => ?_) (fun c5 => ?_)
  · have hf := oa_ifp c5 hf
    refine ww_aload_n (pc := 45) (i := 0) C 0 dX5_passWeeks_45 rfl rfl ?_
    refine ww_get (pc := 46) C fl_X5_56 0 rfl rfl dX5_passWeeks_46 ?_
    refine ww_iload_n (pc := 49) (i := 2) C 2 dX5_passWeeks_49 rfl rfl ?_
    refine ww_isub (pc := 50) C dX5_passWeeks_50 ?_
    obtain rfl := Option.some.inj hf
    exact ww_iret (pc := 51) C rfl dX5_passWeeks_51
  · have hf := oa_ifn c5 hf
    refine ww_aload_n (pc := 17) (i := 0) C 0 dX5_passWeeks_17 rfl rfl ?_
    obtain ⟨V6, e7, hf⟩ := oa_bind hf
    refine ww_callV (pc := 18) (As := []) (rest := []) (wd := wd_V O h V6) (ws' := wd_V O h V6) (rv := none) C hY_X5_wrongAll hV_X5_wrongAll lk_X5_132 (m_X5_wrongAll _ O h V _ e7) [0, 1, 2, 3, 4, 5] 0 rfl rfl rfl rfl rfl rfl (fun _ h => h) ⟨rfl, rfl⟩ ⟨Nat.zero_le _, Nat.zero_le _⟩ ⟨Nat.le_of_ble_eq_true rfl, Nat.le_of_ble_eq_true rfl⟩ rfl (Nat.le_of_ble_eq_true rfl) rfl rfl dX5_passWeeks_18 ?_
    refine ww_aload_n (pc := 21) (i := 0) C 0 dX5_passWeeks_21 rfl rfl ?_
    obtain ⟨V9, e10, hf⟩ := oa_bind hf
    refine ww_callV (pc := 22) (As := []) (rest := []) (wd := wd_V O h V9) (ws' := wd_V O h V9) (rv := none) C hY_X5_hurtAll hV_X5_hurtAll lk_X5_135 (m_X5_hurtAll _ O h V6 _ e10) [0, 1, 2, 3, 4, 5] 0 rfl rfl rfl rfl rfl rfl (fun _ h => h) ⟨rfl, rfl⟩ ⟨Nat.zero_le _, Nat.zero_le _⟩ ⟨Nat.le_of_ble_eq_true rfl, Nat.le_of_ble_eq_true rfl⟩ rfl (Nat.le_of_ble_eq_true rfl) rfl rfl dX5_passWeeks_22 ?_
    refine ww_aload_n (pc := 25) (i := 0) C 0 dX5_passWeeks_25 rfl rfl ?_
    obtain ⟨V12, e13, hf⟩ := oa_bind hf
    refine ww_callV (pc := 26) (As := []) (rest := []) (wd := wd_V O h V12) (ws' := wd_V O h V12) (rv := none) C hY_X5_endSome hV_X5_endSome lk_X5_138 (m_X5_endSome _ O h V9 _ e13) [0, 1, 2, 3, 4, 5] 0 rfl rfl rfl rfl rfl rfl (fun _ h => h) ⟨rfl, rfl⟩ ⟨Nat.zero_le _, Nat.zero_le _⟩ ⟨Nat.le_of_ble_eq_true rfl, Nat.le_of_ble_eq_true rfl⟩ rfl (Nat.le_of_ble_eq_true rfl) rfl rfl dX5_passWeeks_26 ?_
    refine ww_aload_n (pc := 29) (i := 0) C 0 dX5_passWeeks_29 rfl rfl ?_
    refine ww_dup (pc := 30) C dX5_passWeeks_30 rfl ?_
    refine ww_get (pc := 31) C fl_X5_53 0 rfl rfl dX5_passWeeks_31 ?_
    refine ww_iconst (pc := 34) C dX5_passWeeks_34 kc_1 ?_
    refine ww_iadd (pc := 35) C dX5_passWeeks_35 ?_
    obtain ⟨V15, e16, hf⟩ := oa_letE hf
    refine ww_put (pc := 36) C fl_X5_53 (fun Z => wd_V O h Z) 0 rfl rfl rfl (Nat.le_of_ble_eq_true rfl) e16 rfl dX5_passWeeks_36 ?_
    refine ww_iinc (pc := 39) (v := (x3 + 1)) (L' := [(0, .ref (h 0)), (1, .int x1), (2, .int x2), (3, .int (x3 + 1))]) C 3 [1, 2, 3, 0] dX5_passWeeks_39 rfl (ki_1 _) (Nat.le_of_ble_eq_true rfl) rfl ?_
    refine ww_goto (pc := 42) (tgt := 12) C dX5_passWeeks_42 (by decide) ?_
    exact hk12 V15 (x3 + 1) hf
theorem t_l_X5_passWeeks_12 {G : oa_G} {O : oa_O} {A : Nat → Prop} {h : Nat → Nat} {res : Int32 × oa_I2} (C : oa_C G cX5_passWeeks 4 RX5 (some .int) rm_X5_passWeeks O A) (x1 : Int32) (x2 : Int32)   : ∀ (n : Nat) (V : oa_I2) (x3 : Int32), l_X5_passWeeks_12 x1 x2 n V x3 = some res → ww G 4 O A (oa_Q G O A (0, 0) (some (.int res.1)) (fun W1 => W1 = wd_V O h res.2)) (0, 0) 12 [(0, .ref (h 0)), (1, .int x1), (2, .int x2), (3, .int x3)] [] (wd_V O h V) := by
  intro n
  induction n with
  | zero => intro V x3 hf; exact absurd (show (none : Option (Int32 × oa_I2)) = some res from hf) (fun h => nomatch h)
  | succ n ih =>
    intro V x3 hf
    exact t_b_X5_passWeeks_12 C x1 x2 (fun V x3 => l_X5_passWeeks_12 x1 x2 n V x3)  (fun V x3 h => ih V x3 h) V x3 hf
theorem m_X5_passWeeks (l : Launch) (O : oa_O) (h : Nat → Nat) (V : oa_I2) (x1 : Int32) (res : Int32 × oa_I2) (hf : f_X5_passWeeks V x1 = some res) : oa_M l yX5_passWeeks cX5_passWeeks 4 (some .int) rm_X5_passWeeks O [.ref (h 0), .int x1] (wd_V O h V) (some (.int res.1)) (fun W1 => W1 = wd_V O h res.2) := by
  refine oa_Mof (by decide) (Nat.le_of_ble_eq_true rfl) (fun G A hl C => ?_)
  subst hl
  have C : oa_C G cX5_passWeeks 4 RX5 (some .int) rm_X5_passWeeks O A := C
  have hf : f_X5_passWeeks V x1 = some res := hf
  delta f_X5_passWeeks at hf
  show ww G 4 O A (oa_Q G O A (0, 0) (some (.int res.1)) (fun W1 => W1 = wd_V O h res.2)) (0, 0) 0 [(0, .ref (h 0)), (1, .int x1)] [] (wd_V O h V)
  refine ww_aload_n (pc := 0) (i := 0) C 0 dX5_passWeeks_0 rfl rfl ?_
  refine ww_get (pc := 1) C fl_X5_56 0 rfl rfl dX5_passWeeks_1 ?_
  obtain ⟨y1, e2, hf⟩ := oa_letE hf
  refine ww_topi C e2 ?_
  refine ww_istore_n (pc := 4) (L' := [(0, .ref (h 0)), (1, .int x1), (2, .int y1)]) C [1, 2, 0] dX5_passWeeks_4 rfl (Nat.le_of_ble_eq_true rfl) rfl ?_
  refine ww_aload_n (pc := 5) (i := 0) C 0 dX5_passWeeks_5 rfl rfl ?_
  refine ww_iconst (pc := 6) C dX5_passWeeks_6 kc_0 ?_
  obtain ⟨V3, e4, hf⟩ := oa_letE hf
  refine ww_put (pc := 7) C fl_X5_129 (fun Z => wd_V O h Z) 0 rfl rfl rfl (Nat.le_of_ble_eq_true rfl) e4 rfl dX5_passWeeks_7 ?_
  refine ww_iconst (pc := 10) C dX5_passWeeks_10 kc_0 ?_
  refine ww_istore_n (pc := 11) (L' := [(0, .ref (h 0)), (1, .int x1), (2, .int y1), (3, .int 0)]) C [1, 2, 3, 0] dX5_passWeeks_11 rfl (Nat.le_of_ble_eq_true rfl) rfl ?_
  exact t_l_X5_passWeeks_12 C x1 y1   oa_fu V3 0 hf
