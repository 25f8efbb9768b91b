/-! methods of the JDK (decode rows printed, contracts ours) -/
theorem dJ7_fill_53178_0 : decode cJ7_fill_53178 0 = .ok (.iconst 0, 1) := by decide +kernel
theorem dJ7_fill_53178_1 : decode cJ7_fill_53178 1 = .ok (.istore_n 2, 1) := by decide +kernel
theorem dJ7_fill_53178_2 : decode cJ7_fill_53178 2 = .ok (.aload_n 0, 1) := by decide +kernel
theorem dJ7_fill_53178_3 : decode cJ7_fill_53178 3 = .ok (.arraylength, 1) := by decide +kernel
theorem dJ7_fill_53178_4 : decode cJ7_fill_53178 4 = .ok (.istore_n 3, 1) := by decide +kernel
theorem dJ7_fill_53178_5 : decode cJ7_fill_53178 5 = .ok (.iload_n 2, 1) := by decide +kernel
theorem dJ7_fill_53178_6 : decode cJ7_fill_53178 6 = .ok (.iload_n 3, 1) := by decide +kernel
theorem dJ7_fill_53178_7 : decode cJ7_fill_53178 7 = .ok (.if_icmp .ge 13, 3) := by decide +kernel
theorem dJ7_fill_53178_10 : decode cJ7_fill_53178 10 = .ok (.aload_n 0, 1) := by decide +kernel
theorem dJ7_fill_53178_11 : decode cJ7_fill_53178 11 = .ok (.iload_n 2, 1) := by decide +kernel
theorem dJ7_fill_53178_12 : decode cJ7_fill_53178 12 = .ok (.iload_n 1, 1) := by decide +kernel
theorem dJ7_fill_53178_13 : decode cJ7_fill_53178 13 = .ok (.iastore, 1) := by decide +kernel
theorem dJ7_fill_53178_14 : decode cJ7_fill_53178 14 = .ok (.iinc 2 1, 3) := by decide +kernel
theorem dJ7_fill_53178_17 : decode cJ7_fill_53178 17 = .ok (.goto (-12), 3) := by decide +kernel
theorem dJ7_fill_53178_20 : decode cJ7_fill_53178 20 = .ok (.return_, 1) := by decide +kernel
theorem dJ7_fill_d0a16_0 : decode cJ7_fill_d0a16 0 = .ok (.iconst 0, 1) := by decide +kernel
theorem dJ7_fill_d0a16_1 : decode cJ7_fill_d0a16 1 = .ok (.istore_n 3, 1) := by decide +kernel
theorem dJ7_fill_d0a16_2 : decode cJ7_fill_d0a16 2 = .ok (.aload_n 0, 1) := by decide +kernel
theorem dJ7_fill_d0a16_3 : decode cJ7_fill_d0a16 3 = .ok (.arraylength, 1) := by decide +kernel
theorem dJ7_fill_d0a16_4 : decode cJ7_fill_d0a16 4 = .ok (.istore 4, 2) := by decide +kernel
theorem dJ7_fill_d0a16_6 : decode cJ7_fill_d0a16 6 = .ok (.iload_n 3, 1) := by decide +kernel
theorem dJ7_fill_d0a16_7 : decode cJ7_fill_d0a16 7 = .ok (.iload 4, 2) := by decide +kernel
theorem dJ7_fill_d0a16_9 : decode cJ7_fill_d0a16 9 = .ok (.if_icmp .ge 13, 3) := by decide +kernel
theorem dJ7_fill_d0a16_12 : decode cJ7_fill_d0a16 12 = .ok (.aload_n 0, 1) := by decide +kernel
theorem dJ7_fill_d0a16_13 : decode cJ7_fill_d0a16 13 = .ok (.iload_n 3, 1) := by decide +kernel
theorem dJ7_fill_d0a16_14 : decode cJ7_fill_d0a16 14 = .ok (.lload_n 1, 1) := by decide +kernel
theorem dJ7_fill_d0a16_15 : decode cJ7_fill_d0a16 15 = .ok (.lastore, 1) := by decide +kernel
theorem dJ7_fill_d0a16_16 : decode cJ7_fill_d0a16 16 = .ok (.iinc 3 1, 3) := by decide +kernel
theorem dJ7_fill_d0a16_19 : decode cJ7_fill_d0a16 19 = .ok (.goto (-13), 3) := by decide +kernel
theorem dJ7_fill_d0a16_22 : decode cJ7_fill_d0a16 22 = .ok (.return_, 1) := by decide +kernel
theorem dJ0_length_8abf5_0 : decode cJ0_length_8abf5 0 = .ok (.aload_n 0, 1) := by decide +kernel
theorem dJ0_length_8abf5_1 : decode cJ0_length_8abf5 1 = .ok (.getfield 9, 3) := by decide +kernel
theorem dJ0_length_8abf5_4 : decode cJ0_length_8abf5 4 = .ok (.arraylength, 1) := by decide +kernel
theorem dJ0_length_8abf5_5 : decode cJ0_length_8abf5 5 = .ok (.aload_n 0, 1) := by decide +kernel
theorem dJ0_length_8abf5_6 : decode cJ0_length_8abf5 6 = .ok (.invokevirtual 335, 3) := by decide +kernel
theorem dJ0_length_8abf5_9 : decode cJ0_length_8abf5 9 = .ok (.ishr, 1) := by decide +kernel
theorem dJ0_length_8abf5_10 : decode cJ0_length_8abf5 10 = .ok (.ireturn, 1) := by decide +kernel
theorem dJ0_coder_7d493_0 : decode cJ0_coder_7d493 0 = .ok (.getstatic 38, 3) := by decide +kernel
theorem dJ0_coder_7d493_3 : decode cJ0_coder_7d493 3 = .ok (.ifCond .eq 10, 3) := by decide +kernel
theorem dJ0_coder_7d493_6 : decode cJ0_coder_7d493 6 = .ok (.aload_n 0, 1) := by decide +kernel
theorem dJ0_coder_7d493_7 : decode cJ0_coder_7d493 7 = .ok (.getfield 15, 3) := by decide +kernel
theorem dJ0_coder_7d493_10 : decode cJ0_coder_7d493 10 = .ok (.goto 4, 3) := by decide +kernel
theorem dJ0_coder_7d493_13 : decode cJ0_coder_7d493 13 = .ok (.iconst 1, 1) := by decide +kernel
theorem dJ0_coder_7d493_14 : decode cJ0_coder_7d493 14 = .ok (.ireturn, 1) := by decide +kernel
theorem dJ0_charAt_5068e_0 : decode cJ0_charAt_5068e 0 = .ok (.aload_n 0, 1) := by decide +kernel
theorem dJ0_charAt_5068e_1 : decode cJ0_charAt_5068e 1 = .ok (.invokevirtual 492, 3) := by decide +kernel
theorem dJ0_charAt_5068e_4 : decode cJ0_charAt_5068e 4 = .ok (.ifCond .eq 12, 3) := by decide +kernel
theorem dJ0_charAt_5068e_7 : decode cJ0_charAt_5068e 7 = .ok (.aload_n 0, 1) := by decide +kernel
theorem dJ0_charAt_5068e_8 : decode cJ0_charAt_5068e 8 = .ok (.getfield 9, 3) := by decide +kernel
theorem dJ0_charAt_5068e_11 : decode cJ0_charAt_5068e 11 = .ok (.iload_n 1, 1) := by decide +kernel
theorem dJ0_charAt_5068e_12 : decode cJ0_charAt_5068e 12 = .ok (.invokestatic 495, 3) := by decide +kernel
theorem dJ0_charAt_5068e_15 : decode cJ0_charAt_5068e 15 = .ok (.ireturn, 1) := by decide +kernel
theorem dJ0_charAt_5068e_16 : decode cJ0_charAt_5068e 16 = .ok (.aload_n 0, 1) := by decide +kernel
theorem dJ0_charAt_5068e_17 : decode cJ0_charAt_5068e 17 = .ok (.getfield 9, 3) := by decide +kernel
theorem dJ0_charAt_5068e_20 : decode cJ0_charAt_5068e 20 = .ok (.iload_n 1, 1) := by decide +kernel
theorem dJ0_charAt_5068e_21 : decode cJ0_charAt_5068e 21 = .ok (.invokestatic 498, 3) := by decide +kernel
theorem dJ0_charAt_5068e_24 : decode cJ0_charAt_5068e 24 = .ok (.ireturn, 1) := by decide +kernel
theorem dJ0_isLatin1_aae02_0 : decode cJ0_isLatin1_aae02 0 = .ok (.getstatic 38, 3) := by decide +kernel
theorem dJ0_isLatin1_aae02_3 : decode cJ0_isLatin1_aae02 3 = .ok (.ifCond .eq 14, 3) := by decide +kernel
theorem dJ0_isLatin1_aae02_6 : decode cJ0_isLatin1_aae02 6 = .ok (.aload_n 0, 1) := by decide +kernel
theorem dJ0_isLatin1_aae02_7 : decode cJ0_isLatin1_aae02 7 = .ok (.getfield 15, 3) := by decide +kernel
theorem dJ0_isLatin1_aae02_10 : decode cJ0_isLatin1_aae02 10 = .ok (.ifCond .ne 7, 3) := by decide +kernel
theorem dJ0_isLatin1_aae02_13 : decode cJ0_isLatin1_aae02 13 = .ok (.iconst 1, 1) := by decide +kernel
theorem dJ0_isLatin1_aae02_14 : decode cJ0_isLatin1_aae02 14 = .ok (.goto 4, 3) := by decide +kernel
theorem dJ0_isLatin1_aae02_17 : decode cJ0_isLatin1_aae02 17 = .ok (.iconst 0, 1) := by decide +kernel
theorem dJ0_isLatin1_aae02_18 : decode cJ0_isLatin1_aae02 18 = .ok (.ireturn, 1) := by decide +kernel
theorem dJ1_charAt_3b067_0 : decode cJ1_charAt_3b067 0 = .ok (.iload_n 1, 1) := by decide +kernel
theorem dJ1_charAt_3b067_1 : decode cJ1_charAt_3b067 1 = .ok (.aload_n 0, 1) := by decide +kernel
theorem dJ1_charAt_3b067_2 : decode cJ1_charAt_3b067 2 = .ok (.arraylength, 1) := by decide +kernel
theorem dJ1_charAt_3b067_3 : decode cJ1_charAt_3b067 3 = .ok (.invokestatic 9, 3) := by decide +kernel
theorem dJ1_charAt_3b067_6 : decode cJ1_charAt_3b067 6 = .ok (.aload_n 0, 1) := by decide +kernel
theorem dJ1_charAt_3b067_7 : decode cJ1_charAt_3b067 7 = .ok (.iload_n 1, 1) := by decide +kernel
theorem dJ1_charAt_3b067_8 : decode cJ1_charAt_3b067 8 = .ok (.baload, 1) := by decide +kernel
theorem dJ1_charAt_3b067_9 : decode cJ1_charAt_3b067 9 = .ok (.sipush 255, 3) := by decide +kernel
theorem dJ1_charAt_3b067_12 : decode cJ1_charAt_3b067 12 = .ok (.iand, 1) := by decide +kernel
theorem dJ1_charAt_3b067_13 : decode cJ1_charAt_3b067 13 = .ok (.i2c, 1) := by decide +kernel
theorem dJ1_charAt_3b067_14 : decode cJ1_charAt_3b067 14 = .ok (.ireturn, 1) := by decide +kernel
theorem dJ0_checkIndex_df160_0 : decode cJ0_checkIndex_df160 0 = .ok (.iload_n 0, 1) := by decide +kernel
theorem dJ0_checkIndex_df160_1 : decode cJ0_checkIndex_df160 1 = .ok (.iload_n 1, 1) := by decide +kernel
theorem dJ0_checkIndex_df160_2 : decode cJ0_checkIndex_df160 2 = .ok (.getstatic 1053, 3) := by decide +kernel
theorem dJ0_checkIndex_df160_5 : decode cJ0_checkIndex_df160 5 = .ok (.invokestatic 1059, 3) := by decide +kernel
theorem dJ0_checkIndex_df160_8 : decode cJ0_checkIndex_df160 8 = .ok (.pop, 1) := by decide +kernel
theorem dJ0_checkIndex_df160_9 : decode cJ0_checkIndex_df160 9 = .ok (.return_, 1) := by decide +kernel
theorem dJ3_checkIndex_8e157_0 : decode cJ3_checkIndex_8e157 0 = .ok (.iload_n 0, 1) := by decide +kernel
theorem dJ3_checkIndex_8e157_1 : decode cJ3_checkIndex_8e157 1 = .ok (.ifCond .lt 8, 3) := by decide +kernel
theorem dJ3_checkIndex_8e157_4 : decode cJ3_checkIndex_8e157 4 = .ok (.iload_n 0, 1) := by decide +kernel
theorem dJ3_checkIndex_8e157_5 : decode cJ3_checkIndex_8e157 5 = .ok (.iload_n 1, 1) := by decide +kernel
theorem dJ3_checkIndex_8e157_6 : decode cJ3_checkIndex_8e157 6 = .ok (.if_icmp .lt 10, 3) := by decide +kernel
theorem dJ3_checkIndex_8e157_9 : decode cJ3_checkIndex_8e157 9 = .ok (.aload_n 2, 1) := by decide +kernel
theorem dJ3_checkIndex_8e157_10 : decode cJ3_checkIndex_8e157 10 = .ok (.iload_n 0, 1) := by decide +kernel
theorem dJ3_checkIndex_8e157_11 : decode cJ3_checkIndex_8e157 11 = .ok (.iload_n 1, 1) := by decide +kernel
theorem dJ3_checkIndex_8e157_12 : decode cJ3_checkIndex_8e157 12 = .ok (.invokestatic 95, 3) := by decide +kernel
theorem dJ3_checkIndex_8e157_15 : decode cJ3_checkIndex_8e157 15 = .ok (.athrow, 1) := by decide +kernel
theorem dJ3_checkIndex_8e157_16 : decode cJ3_checkIndex_8e157 16 = .ok (.iload_n 0, 1) := by decide +kernel
theorem dJ3_checkIndex_8e157_17 : decode cJ3_checkIndex_8e157 17 = .ok (.ireturn, 1) := by decide +kernel
theorem hY_J7_fill_53178 : oa_Y yJ7_fill_53178 cJ7_fill_53178 4 none 2 := ⟨oa_at 105 (by decide +kernel) rfl, oa_at 66 (by decide +kernel) rfl, by decide, by decide, by decide +kernel⟩
theorem hY_J7_fill_d0a16 : oa_Y yJ7_fill_d0a16 cJ7_fill_d0a16 5 none 2 := ⟨oa_at 810 (by decide +kernel) rfl, oa_at 66 (by decide +kernel) rfl, by decide, by decide, by decide +kernel⟩
theorem hY_J0_length_8abf5 : oa_Y yJ0_length_8abf5 cJ0_length_8abf5 1 (some .int) 0 := ⟨oa_at 357 (by decide +kernel) rfl, oa_at 73 (by decide +kernel) rfl, by decide, by decide, by decide +kernel⟩
theorem hY_J0_coder_7d493 : oa_Y yJ0_coder_7d493 cJ0_coder_7d493 1 (some .byte) 0 := ⟨oa_at 361 (by decide +kernel) rfl, oa_at 73 (by decide +kernel) rfl, by decide, by decide, by decide +kernel⟩
theorem hY_J0_charAt_5068e : oa_Y yJ0_charAt_5068e cJ0_charAt_5068e 2 (some .char) 1 := ⟨oa_at 367 (by decide +kernel) rfl, oa_at 73 (by decide +kernel) rfl, by decide, by decide, by decide +kernel⟩
theorem hY_J0_isLatin1_aae02 : oa_Y yJ0_isLatin1_aae02 cJ0_isLatin1_aae02 1 (some .boolean) 0 := ⟨oa_at 371 (by decide +kernel) rfl, oa_at 73 (by decide +kernel) rfl, by decide, by decide, by decide +kernel⟩
theorem hY_J1_charAt_3b067 : oa_Y yJ1_charAt_3b067 cJ1_charAt_3b067 2 (some .char) 2 := ⟨oa_at 374 (by decide +kernel) rfl, oa_at 74 (by decide +kernel) rfl, by decide, by decide, by decide +kernel⟩
theorem hY_J0_checkIndex_df160 : oa_Y yJ0_checkIndex_df160 cJ0_checkIndex_df160 2 none 2 := ⟨oa_at 377 (by decide +kernel) rfl, oa_at 73 (by decide +kernel) rfl, by decide, by decide, by decide +kernel⟩
theorem hY_J3_checkIndex_8e157 : oa_Y yJ3_checkIndex_8e157 cJ3_checkIndex_8e157 3 (some .int) 3 := ⟨oa_at 382 (by decide +kernel) rfl, oa_at 75 (by decide +kernel) rfl, by decide, by decide, by decide +kernel⟩
theorem hS_J7_fill_53178 : Cond.static yJ7_fill_53178 ∈ oa_gw := oa_at 104 (by decide +kernel) rfl
theorem hS_J7_fill_d0a16 : Cond.static yJ7_fill_d0a16 ∈ oa_gw := oa_at 809 (by decide +kernel) rfl
theorem hS_J1_charAt_3b067 : Cond.static yJ1_charAt_3b067 ∈ oa_gw := oa_at 373 (by decide +kernel) rfl
theorem hS_J0_checkIndex_df160 : Cond.static yJ0_checkIndex_df160 ∈ oa_gw := oa_at 376 (by decide +kernel) rfl
theorem hS_J3_checkIndex_8e157 : Cond.static yJ3_checkIndex_8e157 ∈ oa_gw := oa_at 381 (by decide +kernel) rfl
theorem hV_J0_length_8abf5 : oa_YV yJ0_length_8abf5 := ⟨oa_at 355 (by decide +kernel) rfl, oa_at 356 (by decide +kernel) rfl⟩
theorem hV_J0_coder_7d493 : oa_YV yJ0_coder_7d493 := ⟨oa_at 359 (by decide +kernel) rfl, oa_at 360 (by decide +kernel) rfl⟩
theorem hV_J0_charAt_5068e : oa_YV yJ0_charAt_5068e := ⟨oa_at 365 (by decide +kernel) rfl, oa_at 366 (by decide +kernel) rfl⟩
theorem hV_J0_isLatin1_aae02 : oa_YV yJ0_isLatin1_aae02 := ⟨oa_at 369 (by decide +kernel) rfl, oa_at 370 (by decide +kernel) rfl⟩
theorem lk_J0_335 : Cond.methodLink RJ0 335 yJ0_coder_7d493 ∈ oa_gw := oa_at 358 (by decide +kernel) rfl
theorem lk_J0_492 : Cond.methodLink RJ0 492 yJ0_isLatin1_aae02 ∈ oa_gw := oa_at 368 (by decide +kernel) rfl
theorem lk_J0_495 : Cond.methodLink RJ0 495 yJ1_charAt_3b067 ∈ oa_gw := oa_at 372 (by decide +kernel) rfl
theorem lk_J1_9 : Cond.methodLink RJ1 9 yJ0_checkIndex_df160 ∈ oa_gw := oa_at 375 (by decide +kernel) rfl
theorem lk_J0_1059 : Cond.methodLink RJ0 1059 yJ3_checkIndex_8e157 ∈ oa_gw := oa_at 380 (by decide +kernel) rfl
theorem fw_J0_9 : Cond.fieldLink RJ0 9 "java/lang/String" "value" "[B" ∈ oa_gw := oa_at 1337 (by decide +kernel) rfl
theorem fw_J0_38 : Cond.fieldLink RJ0 38 "java/lang/String" "COMPACT_STRINGS" "Z" ∈ oa_gw := oa_at 362 (by decide +kernel) rfl
theorem fw_J0_15 : Cond.fieldLink RJ0 15 "java/lang/String" "coder" "B" ∈ oa_gw := oa_at 1338 (by decide +kernel) rfl
theorem fw_J0_1053 : Cond.fieldLink RJ0 1053 "jdk/internal/util/Preconditions" "SIOOBE_FORMATTER" "Ljava/util/function/BiFunction;" ∈ oa_gw := oa_at 378 (by decide +kernel) rfl
theorem kj_0 : Int32.ofInt 0 = 0 := by decide
theorem kj_1 : Int32.ofInt 1 = 1 := by decide
theorem kj_255 : (Int16.ofInt 255).toInt32 = 255 := by decide
theorem kj_i (x : Int32) : x + Int32.ofInt 1 = x + 1 := rfl
/-! Arrays.fill -/
abbrev rm_fill : Room := { frames := 0, cells := 0, slots := 0, locals := 0 }
theorem oa_fill_0 {α : Type} (v : α) (f : Nat → α) : oa_fill 0 v f = f := by
  funext k; simp [oa_fill]
theorem oa_fill_s (v : Int32) (f : Nat → Int32) (i : Nat) : upd (oa_fill i v f) i v = oa_fill (i + 1) v f := by
  funext k
  unfold upd oa_fill
  by_cases h : k = i
  · subst h; simp
  · by_cases h2 : k < i
    · simp [h, h2, show k < i + 1 by omega]
    · simp [h, h2, show ¬ k < i + 1 by omega]
theorem oa_fill_sL (v : Int64) (f : Nat → Int64) (i : Nat) : vp_updL (oa_fill i v f) i v = oa_fill (i + 1) v f := by
  funext k
  unfold vp_updL oa_fill
  by_cases h : k = i
  · subst h; simp
  · by_cases h2 : k < i
    · simp [h, h2, show k < i + 1 by omega]
    · simp [h, h2, show ¬ k < i + 1 by omega]
theorem oa_wr_nI {f : Nat → Int32} {n i : Nat} {x : Int32} (h : i < n) (hn : n < 2 ^ 31) : oa_wr f n (nI i) x = some (upd f i x) := by
  unfold oa_wr
  rw [if_neg (nI_in h hn), nI_clamp (by omega)]
theorem oa_wrL_nI {f : Nat → Int64} {n i : Nat} {x : Int64} (h : i < n) (hn : n < 2 ^ 31) : oa_wrL f n (nI i) x = some (vp_updL f i x) := by
  unfold oa_wrL
  rw [if_neg (nI_in h hn), nI_clamp (by omega)]
theorem t_fill {G : oa_G} {O : oa_O} {A : Nat → Prop} {b n : Nat} {v : Int32} {f : Nat → Int32} (hn : n < 2 ^ 31) (C : oa_C G cJ7_fill_53178 4 RJ7 none rm_fill O A) : ∀ (k i : Nat), i + k = n → ww G 4 O A (oa_Q G O A (0, 0) none (fun W1 => W1 = [(b, .inl (oa_id O 0, n, .inl (oa_fill n v f)))])) (0, 0) 5 [(0, .ref b), (1, .int v), (2, .int (nI i)), (3, .int (nI n))] [] [(b, .inl (oa_id O 0, n, .inl (oa_fill i v f)))] := by
  intro k
  induction k with
  | zero =>
    intro i h
    have h : i = n := h
    subst h
    refine ww_iload_n (pc := 5) (i := 2) C 2 dJ7_fill_53178_5 rfl rfl ?_
    refine ww_iload_n (pc := 6) (i := 3) C 3 dJ7_fill_53178_6 rfl rfl ?_
    refine ww_icmp_ge (pc := 7) (tgt := 20) C dJ7_fill_53178_7 (by decide) (fun _ => ?_) (fun c => absurd (nI_le (Nat.le_refl i) hn) c)
    exact ww_vret (pc := 20) C rfl dJ7_fill_53178_20
  | succ k ih =>
    intro i h
    refine ww_iload_n (pc := 5) (i := 2) C 2 dJ7_fill_53178_5 rfl rfl ?_
    refine ww_iload_n (pc := 6) (i := 3) C 3 dJ7_fill_53178_6 rfl rfl ?_
    refine ww_icmp_ge (pc := 7) (tgt := 20) C dJ7_fill_53178_7 (by decide) (fun c => absurd c (nI_ge (by omega) hn)) (fun _ => ?_)
    refine ww_aload_n (pc := 10) (i := 0) C 0 dJ7_fill_53178_10 rfl rfl ?_
    refine ww_iload_n (pc := 11) (i := 2) C 2 dJ7_fill_53178_11 rfl rfl ?_
    refine ww_iload_n (pc := 12) (i := 1) C 1 dJ7_fill_53178_12 rfl rfl ?_
    refine ww_iast (pc := 13) C (fun Z => [(b, .inl (oa_id O 0, n, .inl Z))]) 0 rfl (oa_wr_nI (by omega) hn) (oa_fill_s v f i).symm rfl dJ7_fill_53178_13 ?_
    refine ww_iinc (pc := 14) (v := nI (i + 1)) (L' := [(0, .ref b), (1, .int v), (2, .int (nI (i + 1))), (3, .int (nI n))]) C 2 [1, 2, 0, 3] dJ7_fill_53178_14 rfl (nI_succ i).symm (Nat.le_of_ble_eq_true rfl) rfl ?_
    refine ww_goto (pc := 17) (tgt := 5) C dJ7_fill_53178_17 (by decide) ?_
    exact ih (i + 1) (by omega)
theorem m_fill (l : Launch) (O : oa_O) (b n : Nat) (hn : n < 2 ^ 31) (v : Int32) (f : Nat → Int32) : oa_M l yJ7_fill_53178 cJ7_fill_53178 4 none rm_fill O [.ref b, .int v] [(b, .inl (oa_id O 0, n, .inl f))] none (fun W1 => W1 = [(b, .inl (oa_id O 0, n, .inl (oa_fill n v f)))]) := by
  refine oa_Mof (by decide) (Nat.le_of_ble_eq_true rfl) (fun G A hl C => ?_)
  have C : oa_C G cJ7_fill_53178 4 RJ7 none rm_fill O A := C
  show ww G 4 O A (oa_Q G O A (0, 0) none (fun W1 => W1 = [(b, .inl (oa_id O 0, n, .inl (oa_fill n v f)))])) (0, 0) 0 [(0, .ref b), (1, .int v)] [] [(b, .inl (oa_id O 0, n, .inl f))]
  refine ww_iconst (pc := 0) C dJ7_fill_53178_0 kj_0 ?_
  refine ww_istore_n (pc := 1) (L' := [(0, .ref b), (1, .int v), (2, .int 0)]) C [1, 2, 0] dJ7_fill_53178_1 rfl (Nat.le_of_ble_eq_true rfl) rfl ?_
  refine ww_aload_n (pc := 2) (i := 0) C 0 dJ7_fill_53178_2 rfl rfl ?_
  refine ww_alen (pc := 3) (t0 := 0) (ty := .int) C 0 rfl rfl rfl dJ7_fill_53178_3 ?_
  refine ww_istore_n (pc := 4) (L' := [(0, .ref b), (1, .int v), (2, .int 0), (3, .int (nI n))]) C [1, 2, 3, 0] dJ7_fill_53178_4 rfl (Nat.le_of_ble_eq_true rfl) rfl ?_
  have h := t_fill (b := b) (v := v) (f := f) hn C n 0 (by omega)
  rw [oa_fill_0] at h
  exact h
theorem t_fillL {G : oa_G} {O : oa_O} {A : Nat → Prop} {b n : Nat} {v : Int64} {f : Nat → Int64} (hn : n < 2 ^ 31) (C : oa_C G cJ7_fill_d0a16 5 RJ7 none rm_fill O A) : ∀ (k i : Nat), i + k = n → ww G 5 O A (oa_Q G O A (0, 0) none (fun W1 => W1 = [(b, .inl (oa_id O 2, n, .inr (.inl (oa_fill n v f))))])) (0, 0) 6 [(0, .ref b), (1, .long v), (3, .int (nI i)), (4, .int (nI n))] [] [(b, .inl (oa_id O 2, n, .inr (.inl (oa_fill i v f))))] := by
  intro k
  induction k with
  | zero =>
    intro i h
    have h : i = n := h
    subst h
    refine ww_iload_n (pc := 6) (i := 3) C 2 dJ7_fill_d0a16_6 rfl rfl ?_
    refine ww_iload (pc := 7) (i := 4) C 3 dJ7_fill_d0a16_7 rfl ?_
    refine ww_icmp_ge (pc := 9) (tgt := 22) C dJ7_fill_d0a16_9 (by decide) (fun _ => ?_) (fun c => absurd (nI_le (Nat.le_refl i) hn) c)
    exact ww_vret (pc := 22) C rfl dJ7_fill_d0a16_22
  | succ k ih =>
    intro i h
    refine ww_iload_n (pc := 6) (i := 3) C 2 dJ7_fill_d0a16_6 rfl rfl ?_
    refine ww_iload (pc := 7) (i := 4) C 3 dJ7_fill_d0a16_7 rfl ?_
    refine ww_icmp_ge (pc := 9) (tgt := 22) C dJ7_fill_d0a16_9 (by decide) (fun c => absurd c (nI_ge (by omega) hn)) (fun _ => ?_)
    refine ww_aload_n (pc := 12) (i := 0) C 0 dJ7_fill_d0a16_12 rfl rfl ?_
    refine ww_iload_n (pc := 13) (i := 3) C 2 dJ7_fill_d0a16_13 rfl rfl ?_
    refine ww_lload_n (pc := 14) (i := 1) C 1 dJ7_fill_d0a16_14 rfl rfl ?_
    refine ww_last (pc := 15) C (fun Z => [(b, .inl (oa_id O 2, n, .inr (.inl Z)))]) 0 rfl (oa_wrL_nI (by omega) hn) (oa_fill_sL v f i).symm rfl dJ7_fill_d0a16_15 ?_
    refine ww_iinc (pc := 16) (v := nI (i + 1)) (L' := [(0, .ref b), (1, .long v), (3, .int (nI (i + 1))), (4, .int (nI n))]) C 2 [1, 2, 0, 3] dJ7_fill_d0a16_16 rfl (nI_succ i).symm (Nat.le_of_ble_eq_true rfl) rfl ?_
    refine ww_goto (pc := 19) (tgt := 6) C dJ7_fill_d0a16_19 (by decide) ?_
    exact ih (i + 1) (by omega)
theorem m_fillL (l : Launch) (O : oa_O) (b n : Nat) (hn : n < 2 ^ 31) (v : Int64) (f : Nat → Int64) : oa_M l yJ7_fill_d0a16 cJ7_fill_d0a16 5 none rm_fill O [.ref b, .long v] [(b, .inl (oa_id O 2, n, .inr (.inl f)))] none (fun W1 => W1 = [(b, .inl (oa_id O 2, n, .inr (.inl (oa_fill n v f))))]) := by
  refine oa_Mof (by decide) (Nat.le_of_ble_eq_true rfl) (fun G A hl C => ?_)
  have C : oa_C G cJ7_fill_d0a16 5 RJ7 none rm_fill O A := C
  show ww G 5 O A (oa_Q G O A (0, 0) none (fun W1 => W1 = [(b, .inl (oa_id O 2, n, .inr (.inl (oa_fill n v f))))])) (0, 0) 0 [(0, .ref b), (1, .long v)] [] [(b, .inl (oa_id O 2, n, .inr (.inl f)))]
  refine ww_iconst (pc := 0) C dJ7_fill_d0a16_0 kj_0 ?_
  refine ww_istore_n (pc := 1) (L' := [(0, .ref b), (1, .long v), (3, .int 0)]) C [1, 2, 0] dJ7_fill_d0a16_1 rfl (Nat.le_of_ble_eq_true rfl) rfl ?_
  refine ww_aload_n (pc := 2) (i := 0) C 0 dJ7_fill_d0a16_2 rfl rfl ?_
  refine ww_alen (pc := 3) (t0 := 2) (ty := .long) C 0 rfl rfl rfl dJ7_fill_d0a16_3 ?_
  refine ww_istore (pc := 4) (L' := [(0, .ref b), (1, .long v), (3, .int 0), (4, .int (nI n))]) C [1, 2, 3, 0] dJ7_fill_d0a16_4 (Nat.le_of_ble_eq_true rfl) rfl ?_
  have h := t_fillL (b := b) (v := v) (f := f) hn C n 0 (by omega)
  rw [oa_fill_0] at h
  exact h
section OA
variable {G : oa_G} {cc : ByteArray} {nL : Nat} {own : String} {ret : Option FieldType} {rm : Room} {O : oa_O} {A : Nat → Prop} {Q : State → Prop} {cs : Nat × Nat} {L : List (Nat × Value)} {rest : List Value} {ws : va_W} {pc : Nat}
theorem ww_fill {St : Type} {X X1 : St} {index a n : Nat} {f : Nat → Int32} {v : Int32} (C : oa_C G cc nL own ret rm O A) (hlink : Cond.methodLink own index yJ7_fill_53178 ∈ oa_gw) (w : St → va_W) (q0 : Nat) (ha : ws[q0]? = some (a, .inl (oa_id O 0, n, .inl f))) (hX : X1 = X) (hw : ws.set q0 (a, .inl (oa_id O 0, n, .inl (oa_fill n v f))) = w X) (hn : n < 2 ^ 31) (hrm : 0 + 1 ≤ rm.frames ∧ 8 + (4 + 11) + 0 ≤ rm.locals) (hcs : cs.1 ≤ rm.cells ∧ cs.2 ≤ rm.slots) (hst : (rest.map fun v => v.category).sum ≤ 8) (hd : decode cc pc = .ok (.invokestatic index, 3)) (kk : ww G nL O A Q cs (pc + 3) L rest (w X1)) : ww G nL O A Q cs pc L (.int v :: .ref a :: rest) ws := by
  subst hX
  exact ww_callS (As := [.ref a, .int v]) (rest := rest) (rv := none) (wd := [(a, .inl (oa_id O 0, n, .inl (oa_fill n v f)))]) C hY_J7_fill_53178 hS_J7_fill_53178 hlink (m_fill _ O a n hn v f) [q0] rfl (by simp [ha]) rfl hw (fun _ h => h) ⟨rfl, rfl⟩ hcs hrm rfl hst rfl rfl hd kk
theorem ww_fillL {St : Type} {X X1 : St} {index a n : Nat} {f : Nat → Int64} {v : Int64} (C : oa_C G cc nL own ret rm O A) (hlink : Cond.methodLink own index yJ7_fill_d0a16 ∈ oa_gw) (w : St → va_W) (q0 : Nat) (ha : ws[q0]? = some (a, .inl (oa_id O 2, n, .inr (.inl f)))) (hX : X1 = X) (hw : ws.set q0 (a, .inl (oa_id O 2, n, .inr (.inl (oa_fill n v f)))) = w X) (hn : n < 2 ^ 31) (hrm : 0 + 1 ≤ rm.frames ∧ 8 + (5 + 11) + 0 ≤ rm.locals) (hcs : cs.1 ≤ rm.cells ∧ cs.2 ≤ rm.slots) (hst : (rest.map fun v => v.category).sum ≤ 8) (hd : decode cc pc = .ok (.invokestatic index, 3)) (kk : ww G nL O A Q cs (pc + 3) L rest (w X1)) : ww G nL O A Q cs pc L (.long v :: .ref a :: rest) ws := by
  subst hX
  exact ww_callS (As := [.ref a, .long v]) (rest := rest) (rv := none) (wd := [(a, .inl (oa_id O 2, n, .inr (.inl (oa_fill n v f))))]) C hY_J7_fill_d0a16 hS_J7_fill_d0a16 hlink (m_fillL _ O a n hn v f) [q0] rfl (by simp [ha]) rfl hw (fun _ h => h) ⟨rfl, rfl⟩ hcs hrm rfl hst rfl rfl hd kk
/-! String's own -/
theorem ww_cmpS {index : Nat} (C : oa_C G cc nL own ret rm O A) (hw : Cond.fieldLink own index "java/lang/String" "COMPACT_STRINGS" "Z" ∈ oa_gw) (hd : decode cc pc = .ok (.getstatic index, 3)) (kk : ww G nL O A Q cs (pc + 3) L (.int 1 :: rest) ws) : ww G nL O A Q cs pc L rest ws := by
  obtain ⟨p, l, e, R, s, m, args, below, meth, c⟩ := G
  obtain ⟨hR, hx, hb, hml, hown, hts, hr, hlk, hK, hA, hE⟩ := C
  intro H locs ls hP hD hS hl
  exact va_gets hx hb hE.2.1 hS hown (hts _ hw) (fun _ h => h) hd (kk H locs ls hP hD hS hl)
theorem ww_sio {index : Nat} (C : oa_C G cc nL own ret rm O A) (hw : Cond.fieldLink own index "jdk/internal/util/Preconditions" "SIOOBE_FORMATTER" "Ljava/util/function/BiFunction;" ∈ oa_gw) (hd : decode cc pc = .ok (.getstatic index, 3)) (kk : ∀ r : Option Nat, ww G nL O A Q cs (pc + 3) L (va_rf r :: rest) ws) : ww G nL O A Q cs pc L rest ws := by
  obtain ⟨p, l, e, R, s, m, args, below, meth, c⟩ := G
  obtain ⟨hR, hx, hb, hml, hown, hts, hr, hlk, hK, hA, hE⟩ := C
  intro H locs ls hP hD hS hl
  rcases hE.2.2.1 with h | ⟨t, h⟩
  · exact va_gets hx hb h hS hown (hts _ hw) (fun _ h => h) hd (kk none H locs ls hP hD hS hl)
  · exact va_gets hx hb h hS hown (hts _ hw) (fun _ h => h) hd (kk (some t) H locs ls hP hD hS hl)
theorem ww_scod {index k : Nat} (C : oa_C G cc nL own ret rm O A) (hk : k < 13) (hw : Cond.fieldLink own index "java/lang/String" "coder" "B" ∈ oa_gw) (hd : decode cc pc = .ok (.getfield index, 3)) (kk : ww G nL O A Q cs (pc + 3) L (.int 0 :: rest) ws) : ww G nL O A Q cs pc L (.ref (O.2.1 k) :: rest) ws := by
  obtain ⟨p, l, e, R, s, m, args, below, meth, c⟩ := G
  obtain ⟨hR, hx, hb, hml, hown, hts, hr, hlk, hK, hA, hE⟩ := C
  intro H locs ls hP hD hS hl
  exact vk_getf hx hb (hE.2.2.2.1.1 k hk).2.1 hS hown (hts _ hw) (fun _ h => h) hd (kk H locs ls hP hD hS hl)
theorem ww_sval {index k : Nat} (C : oa_C G cc nL own ret rm O A) (hk : k < 13) (hw : Cond.fieldLink own index "java/lang/String" "value" "[B" ∈ oa_gw) (hd : decode cc pc = .ok (.getfield index, 3)) (kk : ww G nL O A Q cs (pc + 3) L (.ref (O.2.2.1 k) :: rest) ws) : ww G nL O A Q cs pc L (.ref (O.2.1 k) :: rest) ws := by
  obtain ⟨p, l, e, R, s, m, args, below, meth, c⟩ := G
  obtain ⟨hR, hx, hb, hml, hown, hts, hr, hlk, hK, hA, hE⟩ := C
  intro H locs ls hP hD hS hl
  exact vk_getf hx hb (hE.2.2.2.1.1 k hk).2.2.1 hS hown (hts _ hw) (fun _ h => h) hd (kk H locs ls hP hD hS hl)
theorem ww_sln {k : Nat} (C : oa_C G cc nL own ret rm O A) (hk : k < 13) (hd : decode cc pc = .ok (.arraylength, 1)) (kk : ww G nL O A Q cs (pc + 1) L (.int (nI (oa_len.getD k 0)) :: rest) ws) : ww G nL O A Q cs pc L (.ref (O.2.2.1 k) :: rest) ws := by
  obtain ⟨p, l, e, R, s, m, args, below, meth, c⟩ := G
  obtain ⟨hR, hx, hb, hml, hown, hts, hr, hlk, hK, hA, hE⟩ := C
  intro H locs ls hP hD hS hl
  exact va_tlen hx hb (hE.2.2.2.1.1 k hk).2.2.2 hS rfl hd (kk H locs ls hP hD hS hl)
theorem ww_sld {k i0 : Nat} {i : Int32} (C : oa_C G cc nL own ret rm O A) (hk : k < 13) (hi : i = nI i0) (hi0 : i0 < oa_len.getD k 0) (hl2 : oa_len.getD k 0 < 2 ^ 31) (hd : decode cc pc = .ok (.baload, 1)) (kk : ww G nL O A Q cs (pc + 1) L (.int ((oa_byt.getD k []).getD i0 0) :: rest) ws) : ww G nL O A Q cs pc L (.int i :: .ref (O.2.2.1 k) :: rest) ws := by
  obtain ⟨p, l, e, R, s, m, args, below, meth, c⟩ := G
  obtain ⟨hR, hx, hb, hml, hown, hts, hr, hlk, hK, hA, hE⟩ := C
  subst hi
  intro H locs ls hP hD hS hl
  exact va_tb hx hb (hE.2.2.2.1.1 k hk).2.2.2 hS (vp_in_nI hi0 hl2) (by rw [nI_clamp (by omega)]) hd (kk H locs ls hP hD hS hl)
theorem ww_ldcS {k index : Nat} (C : oa_C G cc nL "OneAnger$Text" ret rm O A) (hk : k < 13) (hi : oa_six.getD k 0 = index) (hd : decode cc pc = .ok (.ldc index, 2)) (kk : ww G nL O A Q cs (pc + 2) L (.ref (O.2.1 k) :: rest) ws) : ww G nL O A Q cs pc L rest ws := by
  obtain ⟨p, l, e, R, s, m, args, below, meth, c⟩ := G
  obtain ⟨hR, hx, hb, hml, hown, hts, hr, hlk, hK, hA, hE⟩ := C
  subst hi
  intro H locs ls hP hD hS hl
  exact va_ldcS hx hb hown (hE.2.2.2.2.1 k hk) hd (kk H locs ls hP hD hS hl)
theorem ww_i2c {x v : Int32} (C : oa_C G cc nL own ret rm O A) (hv : (x.toUInt32 % 65536).toInt32 = v) (hd : decode cc pc = .ok (.i2c, 1)) (kk : ww G nL O A Q cs (pc + 1) L (.int v :: rest) ws) : ww G nL O A Q cs pc L (.int x :: rest) ws := by
  obtain ⟨p, l, e, R, s, m, args, below, meth, c⟩ := G
  obtain ⟨hR, hx, hb, hml, hown, hts, hr, hlk, hK, hA, hE⟩ := C
  intro H locs ls hP hD hS hl
  exact lv_i2c hx hb hd hv (kk H locs ls hP hD hS hl)
theorem ww_callStr {index ny n k : Nat} {st0 st1 : List Value} {y : MethodName} {cy : ByteArray} {ry : Option FieldType} {rmy : Room} {As : List Value} {rv : Option Value} {Wf : va_W → Prop} (C : oa_C G cc nL own ret rm O A) (hk : k < 13) (hcl : y.cls = "java/lang/String") (hY : oa_Y y cy ny ry n) (hV : oa_YV y) (hlink : Cond.methodLink own index y ∈ oa_gw) (hM : oa_M G.2.1 y cy ny ry rmy O (.ref (O.2.1 k) :: As) [] rv Wf) (hWf : ∀ W1, Wf W1 → W1 = []) (hz : rmy.cells = 0 ∧ rmy.slots = 0) (hcs : cs.1 ≤ rm.cells ∧ cs.2 ≤ rm.slots) (hrm : rmy.frames + 1 ≤ rm.frames ∧ 8 + (ny + 11) + rmy.locals ≤ rm.locals) (hAs : As.length = n) (hst : (rest.map fun v => v.category).sum ≤ 8) (h0 : As.reverse ++ .ref (O.2.1 k) :: rest = st0) (h1 : rv.toList ++ rest = st1) (hd : decode cc pc = .ok (.invokevirtual index, 3)) (kk : ww G nL O A Q cs (pc + 3) L st1 ws) : ww G nL O A Q cs pc L st0 ws := by
  subst h0 h1
  obtain ⟨p, l, e, R, s, m, args, below, meth, c⟩ := G
  have C2 := C
  obtain ⟨hRm, hx, hb, hml, hown, hts, hr, hlk, hK, hA, hE⟩ := C
  subst hRm
  obtain ⟨y1, y2, y3, y4, y5⟩ := hY
  intro H locs ls hP hD hS hl
  have hMs := hM H.size
  rw [hz.1, hz.2] at hMs
  exact oa_back (wc := []) (wd := []) (js := []) C2 hP hD hS hl rfl rfl rfl hWf (va_runV (C := y.cls) ⟨hx, hb, hml, hown, hts⟩ hMs ⟨callB_of n hts (oa_sub y1) rfl hz.1 hz.2 (hts _ y2) (hts _ hlink) ⟨y3, y4, y5⟩ hrm, hts _ hV.1, hts _ hV.2⟩ ⟨oa_blind, by rw [hcl]; exact vk_recv hE.2.2.2.1 hk hS, oa_pre (js := []) C2 hP hD hS rfl rfl⟩ rfl hAs hl.1 rfl (lv_room hst) hd ⟨hcs.1, hcs.2⟩) kk
end OA
abbrev rm_s0 : Room := { frames := 0, cells := 0, slots := 0, locals := 0 }
abbrev rm_s1 : Room := { frames := 1, cells := 0, slots := 0, locals := 22 }
abbrev rm_s2 : Room := { frames := 2, cells := 0, slots := 0, locals := 43 }
abbrev rm_s3 : Room := { frames := 3, cells := 0, slots := 0, locals := 64 }
theorem m_coder (l : Launch) (O : oa_O) {k : Nat} (hk : k < 13) : oa_M l yJ0_coder_7d493 cJ0_coder_7d493 1 (some .byte) rm_s0 O [.ref (O.2.1 k)] [] (some (.int 0)) (fun W1 => W1 = []) := by
  refine oa_Mof (by decide) (Nat.le_of_ble_eq_true rfl) (fun G A hl C => ?_)
  have C : oa_C G cJ0_coder_7d493 1 RJ0 (some .byte) rm_s0 O A := C
  show ww G 1 O A _ (0, 0) 0 [(0, .ref (O.2.1 k))] [] []
  refine ww_cmpS (pc := 0) C fw_J0_38 dJ0_coder_7d493_0 ?_
  refine ww_if_eq (pc := 3) (tgt := 13) C dJ0_coder_7d493_3 (by decide) (fun c => absurd c (by decide)) (fun _ => ?_)
  refine ww_aload_n (pc := 6) (i := 0) C 0 dJ0_coder_7d493_6 rfl rfl ?_
  refine ww_scod (pc := 7) C hk fw_J0_15 dJ0_coder_7d493_7 ?_
  refine ww_goto (pc := 10) (tgt := 14) C dJ0_coder_7d493_10 (by decide) ?_
  exact ww_zret (pc := 14) C rfl rfl dJ0_coder_7d493_14
theorem m_isLatin1 (l : Launch) (O : oa_O) {k : Nat} (hk : k < 13) : oa_M l yJ0_isLatin1_aae02 cJ0_isLatin1_aae02 1 (some .boolean) rm_s0 O [.ref (O.2.1 k)] [] (some (.int 1)) (fun W1 => W1 = []) := by
  refine oa_Mof (by decide) (Nat.le_of_ble_eq_true rfl) (fun G A hl C => ?_)
  have C : oa_C G cJ0_isLatin1_aae02 1 RJ0 (some .boolean) rm_s0 O A := C
  show ww G 1 O A _ (0, 0) 0 [(0, .ref (O.2.1 k))] [] []
  refine ww_cmpS (pc := 0) C fw_J0_38 dJ0_isLatin1_aae02_0 ?_
  refine ww_if_eq (pc := 3) (tgt := 17) C dJ0_isLatin1_aae02_3 (by decide) (fun c => absurd c (by decide)) (fun _ => ?_)
  refine ww_aload_n (pc := 6) (i := 0) C 0 dJ0_isLatin1_aae02_6 rfl rfl ?_
  refine ww_scod (pc := 7) C hk fw_J0_15 dJ0_isLatin1_aae02_7 ?_
  refine ww_if_ne (pc := 10) (tgt := 17) C dJ0_isLatin1_aae02_10 (by decide) (fun c => absurd rfl c) (fun _ => ?_)
  refine ww_iconst (pc := 13) C dJ0_isLatin1_aae02_13 kj_1 ?_
  refine ww_goto (pc := 14) (tgt := 18) C dJ0_isLatin1_aae02_14 (by decide) ?_
  exact ww_zret (pc := 18) C rfl rfl dJ0_isLatin1_aae02_18
theorem m_slen (l : Launch) (O : oa_O) {k : Nat} (hk : k < 13) : oa_M l yJ0_length_8abf5 cJ0_length_8abf5 1 (some .int) rm_s1 O [.ref (O.2.1 k)] [] (some (.int (nI (oa_len.getD k 0)))) (fun W1 => W1 = []) := by
  refine oa_Mof (by decide) (Nat.le_of_ble_eq_true rfl) (fun G A hl C => ?_)
  have C : oa_C G cJ0_length_8abf5 1 RJ0 (some .int) rm_s1 O A := C
  show ww G 1 O A _ (0, 0) 0 [(0, .ref (O.2.1 k))] [] []
  refine ww_aload_n (pc := 0) (i := 0) C 0 dJ0_length_8abf5_0 rfl rfl ?_
  refine ww_sval (pc := 1) C hk fw_J0_9 dJ0_length_8abf5_1 ?_
  refine ww_sln (pc := 4) C hk dJ0_length_8abf5_4 ?_
  refine ww_aload_n (pc := 5) (i := 0) C 0 dJ0_length_8abf5_5 rfl rfl ?_
  refine ww_callStr (pc := 6) (As := []) (rest := [.int (nI (oa_len.getD k 0))]) C hk rfl hY_J0_coder_7d493 hV_J0_coder_7d493 lk_J0_335 (m_coder _ O hk) (fun _ h => h) ⟨rfl, rfl⟩ ⟨Nat.zero_le _, Nat.zero_le _⟩ ⟨Nat.le_of_ble_eq_true rfl, Nat.le_of_ble_eq_true rfl⟩ rfl (Nat.le_of_ble_eq_true rfl) rfl rfl dJ0_length_8abf5_6 ?_
  refine ww_ishr (pc := 9) C dJ0_length_8abf5_9 ?_
  rw [sb_shr0]
  exact ww_iret (pc := 10) C rfl dJ0_length_8abf5_10
theorem m_chkP (l : Launch) (O : oa_O) {i n : Int32} (r : Option Nat) (h1 : ¬ i < 0) (h2 : i < n) : oa_M l yJ3_checkIndex_8e157 cJ3_checkIndex_8e157 3 (some .int) rm_s0 O [.int i, .int n, va_rf r] [] (some (.int i)) (fun W1 => W1 = []) := by
  refine oa_Mof (by decide) (by cases r <;> exact Nat.le_of_ble_eq_true rfl) (fun G A hl C => ?_)
  have C : oa_C G cJ3_checkIndex_8e157 3 RJ3 (some .int) rm_s0 O A := C
  have hL : lv_pick (lv_args 0 [.int i, .int n, va_rf r]) [0, 1] = [(0, .int i), (1, .int n)] := by cases r <;> rfl
  refine ww_sub C [0, 1] hL ?_
  refine ww_iload_n (pc := 0) (i := 0) C 0 dJ3_checkIndex_8e157_0 rfl rfl ?_
  refine ww_if_lt (pc := 1) (tgt := 9) C dJ3_checkIndex_8e157_1 (by decide) (fun c => absurd c h1) (fun _ => ?_)
  refine ww_iload_n (pc := 4) (i := 0) C 0 dJ3_checkIndex_8e157_4 rfl rfl ?_
  refine ww_iload_n (pc := 5) (i := 1) C 1 dJ3_checkIndex_8e157_5 rfl rfl ?_
  refine ww_icmp_lt (pc := 6) (tgt := 16) C dJ3_checkIndex_8e157_6 (by decide) (fun _ => ?_) (fun c => absurd h2 c)
  refine ww_iload_n (pc := 16) (i := 0) C 0 dJ3_checkIndex_8e157_16 rfl rfl ?_
  exact ww_iret (pc := 17) C rfl dJ3_checkIndex_8e157_17
theorem m_chk (l : Launch) (O : oa_O) {i n : Int32} (h1 : ¬ i < 0) (h2 : i < n) : oa_M l yJ0_checkIndex_df160 cJ0_checkIndex_df160 2 none rm_s1 O [.int i, .int n] [] none (fun W1 => W1 = []) := by
  refine oa_Mof (by decide) (Nat.le_of_ble_eq_true rfl) (fun G A hl C => ?_)
  have C : oa_C G cJ0_checkIndex_df160 2 RJ0 none rm_s1 O A := C
  show ww G 2 O A _ (0, 0) 0 [(0, .int i), (1, .int n)] [] []
  refine ww_iload_n (pc := 0) (i := 0) C 0 dJ0_checkIndex_df160_0 rfl rfl ?_
  refine ww_iload_n (pc := 1) (i := 1) C 1 dJ0_checkIndex_df160_1 rfl rfl ?_
  refine ww_sio (pc := 2) C fw_J0_1053 dJ0_checkIndex_df160_2 (fun r => ?_)
  refine ww_callS (pc := 5) (As := [.int i, .int n, va_rf r]) (rest := []) (wd := []) (ws' := []) C hY_J3_checkIndex_8e157 hS_J3_checkIndex_8e157 lk_J0_1059 (m_chkP _ O r h1 h2) [] rfl rfl rfl rfl (fun _ h => h) ⟨rfl, rfl⟩ ⟨Nat.zero_le _, Nat.zero_le _⟩ ⟨Nat.le_of_ble_eq_true rfl, Nat.le_of_ble_eq_true rfl⟩ rfl (Nat.le_of_ble_eq_true rfl) rfl rfl dJ0_checkIndex_df160_5 ?_
  refine ww_pop (pc := 8) C dJ0_checkIndex_df160_8 rfl ?_
  exact ww_vret (pc := 9) C rfl dJ0_checkIndex_df160_9
/-- the character at a place of the k-th constant -/
def oa_sch (k : Nat) (i : Int32) : Option Int32 := if i < 0 ∨ oa_len.getD k 0 ≤ i.toNatClampNeg then none else some ((oa_byt.getD k []).getD i.toNatClampNeg 0)
theorem oa_sch_some {k : Nat} {i y : Int32} (hk : k < 13) (h : oa_sch k i = some y) : ∃ i0 : Nat, i = nI i0 ∧ i0 < oa_len.getD k 0 ∧ y = (oa_byt.getD k []).getD i0 0 := by
  unfold oa_sch at h
  split at h
  · cases h
  · rename_i h1
    obtain ⟨j, hj⟩ := nI_of (x := i) (fun z => h1 (Or.inl z))
    obtain ⟨hj1, rfl⟩ := hj
    rw [nI_clamp hj1] at h1 h
    exact ⟨j, rfl, by omega, (Option.some.inj h).symm⟩
theorem oa_bok : ∀ k, k < 13 → oa_len.getD k 0 < 2 ^ 31 ∧ ∀ j, j < oa_len.getD k 0 → (oa_byt.getD k []).getD j 0 &&& 255 = (oa_byt.getD k []).getD j 0 := by decide +kernel
theorem m_lcha (l : Launch) (O : oa_O) {k : Nat} {i y : Int32} (hk : k < 13) (h : oa_sch k i = some y) : oa_M l yJ1_charAt_3b067 cJ1_charAt_3b067 2 (some .char) rm_s2 O [.ref (O.2.2.1 k), .int i] [] (some (.int y)) (fun W1 => W1 = []) := by
  obtain ⟨i0, rfl, h2, rfl⟩ := oa_sch_some hk h
  obtain ⟨hlt, hby⟩ := oa_bok k hk
  refine oa_Mof (by decide) (Nat.le_of_ble_eq_true rfl) (fun G A hl C => ?_)
  have C : oa_C G cJ1_charAt_3b067 2 RJ1 (some .char) rm_s2 O A := C
  show ww G 2 O A _ (0, 0) 0 [(0, .ref (O.2.2.1 k)), (1, .int (nI i0))] [] []
  refine ww_iload_n (pc := 0) (i := 1) C 1 dJ1_charAt_3b067_0 rfl rfl ?_
  refine ww_aload_n (pc := 1) (i := 0) C 0 dJ1_charAt_3b067_1 rfl rfl ?_
  refine ww_sln (pc := 2) C hk dJ1_charAt_3b067_2 ?_
  refine ww_callS (pc := 3) (As := [.int (nI i0), .int (nI (oa_len.getD k 0))]) (rest := []) (wd := []) (ws' := []) C hY_J0_checkIndex_df160 hS_J0_checkIndex_df160 lk_J1_9 (m_chk _ O (nI_pos (by omega)) (nI_lt h2 hlt)) [] rfl rfl rfl rfl (fun _ h => h) ⟨rfl, rfl⟩ ⟨Nat.zero_le _, Nat.zero_le _⟩ ⟨Nat.le_of_ble_eq_true rfl, Nat.le_of_ble_eq_true rfl⟩ rfl (Nat.le_of_ble_eq_true rfl) rfl rfl dJ1_charAt_3b067_3 ?_
  refine ww_aload_n (pc := 6) (i := 0) C 0 dJ1_charAt_3b067_6 rfl rfl ?_
  refine ww_iload_n (pc := 7) (i := 1) C 1 dJ1_charAt_3b067_7 rfl rfl ?_
  refine ww_sld (pc := 8) C hk rfl h2 hlt dJ1_charAt_3b067_8 ?_
  refine ww_sipush (pc := 9) C dJ1_charAt_3b067_9 kj_255 ?_
  refine ww_iand (pc := 12) C dJ1_charAt_3b067_12 ?_
  refine ww_i2c (pc := 13) C (sc_c2 _) dJ1_charAt_3b067_13 ?_
  have hn := sc_nar ((oa_byt.getD k []).getD i0 0)
  rw [hby i0 h2] at hn ⊢
  exact ww_zret (pc := 14) C hn rfl dJ1_charAt_3b067_14
theorem m_scha (l : Launch) (O : oa_O) {k : Nat} {i y : Int32} (hk : k < 13) (h : oa_sch k i = some y) : oa_M l yJ0_charAt_5068e cJ0_charAt_5068e 2 (some .char) rm_s3 O [.ref (O.2.1 k), .int i] [] (some (.int y)) (fun W1 => W1 = []) := by
  have hn : narrow .char (.int y) = .int y := by
    obtain ⟨i0, rfl, h2, rfl⟩ := oa_sch_some hk h
    have hn := sc_nar ((oa_byt.getD k []).getD i0 0)
    rwa [(oa_bok k hk).2 i0 h2] at hn
  refine oa_Mof (by decide) (Nat.le_of_ble_eq_true rfl) (fun G A hl C => ?_)
  have C : oa_C G cJ0_charAt_5068e 2 RJ0 (some .char) rm_s3 O A := C
  show ww G 2 O A _ (0, 0) 0 [(0, .ref (O.2.1 k)), (1, .int i)] [] []
  refine ww_aload_n (pc := 0) (i := 0) C 0 dJ0_charAt_5068e_0 rfl rfl ?_
  refine ww_callStr (pc := 1) (As := []) (rest := []) C hk rfl hY_J0_isLatin1_aae02 hV_J0_isLatin1_aae02 lk_J0_492 (m_isLatin1 _ O hk) (fun _ h => h) ⟨rfl, rfl⟩ ⟨Nat.zero_le _, Nat.zero_le _⟩ ⟨Nat.le_of_ble_eq_true rfl, Nat.le_of_ble_eq_true rfl⟩ rfl (Nat.le_of_ble_eq_true rfl) rfl rfl dJ0_charAt_5068e_1 ?_
  refine ww_if_eq (pc := 4) (tgt := 16) C dJ0_charAt_5068e_4 (by decide) (fun c => absurd c (by decide)) (fun _ => ?_)
  refine ww_aload_n (pc := 7) (i := 0) C 0 dJ0_charAt_5068e_7 rfl rfl ?_
  refine ww_sval (pc := 8) C hk fw_J0_9 dJ0_charAt_5068e_8 ?_
  refine ww_iload_n (pc := 11) (i := 1) C 1 dJ0_charAt_5068e_11 rfl rfl ?_
  refine ww_callS (pc := 12) (As := [.ref (O.2.2.1 k), .int i]) (rest := []) (wd := []) (ws' := []) C hY_J1_charAt_3b067 hS_J1_charAt_3b067 lk_J0_495 (m_lcha _ O hk h) [] rfl rfl rfl rfl (fun _ h => h) ⟨rfl, rfl⟩ ⟨Nat.zero_le _, Nat.zero_le _⟩ ⟨Nat.le_of_ble_eq_true rfl, Nat.le_of_ble_eq_true rfl⟩ rfl (Nat.le_of_ble_eq_true rfl) rfl rfl dJ0_charAt_5068e_12 ?_
  exact ww_zret (pc := 15) C hn rfl dJ0_charAt_5068e_15
section OB
variable {G : oa_G} {cc : ByteArray} {nL : Nat} {own : String} {ret : Option FieldType} {rm : Room} {O : oa_O} {A : Nat → Prop} {Q : State → Prop} {L : List (Nat × Value)} {rest : List Value} {ws : va_W} {pc : Nat}
theorem ww_slen {index k : Nat} (C : oa_C G cc nL own ret rm O A) (hk : k < 13) (hlink : Cond.methodLink own index yJ0_length_8abf5 ∈ oa_gw) (hrm : 1 + 1 ≤ rm.frames ∧ 8 + (1 + 11) + 22 ≤ rm.locals) (hst : (rest.map fun v => v.category).sum ≤ 8) (hd : decode cc pc = .ok (.invokevirtual index, 3)) (kk : ww G nL O A Q (0, 0) (pc + 3) L (.int (nI (oa_len.getD k 0)) :: rest) ws) : ww G nL O A Q (0, 0) pc L (.ref (O.2.1 k) :: rest) ws :=
  ww_callStr (As := []) (rest := rest) C hk rfl hY_J0_length_8abf5 hV_J0_length_8abf5 hlink (m_slen _ O hk) (fun _ h => h) ⟨rfl, rfl⟩ ⟨Nat.zero_le _, Nat.zero_le _⟩ hrm rfl hst rfl rfl hd kk
theorem ww_scha {index k : Nat} {i y : Int32} (C : oa_C G cc nL own ret rm O A) (hk : k < 13) (hlink : Cond.methodLink own index yJ0_charAt_5068e ∈ oa_gw) (h : oa_sch k i = some y) (hrm : 3 + 1 ≤ rm.frames ∧ 8 + (2 + 11) + 64 ≤ rm.locals) (hst : (rest.map fun v => v.category).sum ≤ 8) (hd : decode cc pc = .ok (.invokevirtual index, 3)) (kk : ww G nL O A Q (0, 0) (pc + 3) L (.int y :: rest) ws) : ww G nL O A Q (0, 0) pc L (.int i :: .ref (O.2.1 k) :: rest) ws :=
  ww_callStr (As := [.int i]) (rest := rest) C hk rfl hY_J0_charAt_5068e hV_J0_charAt_5068e hlink (m_scha _ O hk h) (fun _ h => h) ⟨rfl, rfl⟩ ⟨Nat.zero_le _, Nat.zero_le _⟩ hrm rfl hst rfl rfl hd kk
end OB
