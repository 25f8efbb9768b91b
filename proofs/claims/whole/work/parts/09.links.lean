/-! constants, links (printed by wip/whole/gen/run.py) -/
theorem kb_m65 : (Int8.ofInt (-65)).toInt32 = (-65) := by decide
theorem kb_m20 : (Int8.ofInt (-20)).toInt32 = (-20) := by decide
theorem kb_m14 : (Int8.ofInt (-14)).toInt32 = (-14) := by decide
theorem kb_m12 : (Int8.ofInt (-12)).toInt32 = (-12) := by decide
theorem kb_m11 : (Int8.ofInt (-11)).toInt32 = (-11) := by decide
theorem kb_m10 : (Int8.ofInt (-10)).toInt32 = (-10) := by decide
theorem kb_m4 : (Int8.ofInt (-4)).toInt32 = (-4) := by decide
theorem kb_m3 : (Int8.ofInt (-3)).toInt32 = (-3) := by decide
theorem kb_m2 : (Int8.ofInt (-2)).toInt32 = (-2) := by decide
theorem kb_6 : (Int8.ofInt 6).toInt32 = 6 := by decide
theorem kb_7 : (Int8.ofInt 7).toInt32 = 7 := by decide
theorem kb_8 : (Int8.ofInt 8).toInt32 = 8 := by decide
theorem kb_9 : (Int8.ofInt 9).toInt32 = 9 := by decide
theorem kb_10 : (Int8.ofInt 10).toInt32 = 10 := by decide
theorem kb_11 : (Int8.ofInt 11).toInt32 = 11 := by decide
theorem kb_12 : (Int8.ofInt 12).toInt32 = 12 := by decide
theorem kb_13 : (Int8.ofInt 13).toInt32 = 13 := by decide
theorem kb_15 : (Int8.ofInt 15).toInt32 = 15 := by decide
theorem kb_16 : (Int8.ofInt 16).toInt32 = 16 := by decide
theorem kb_20 : (Int8.ofInt 20).toInt32 = 20 := by decide
theorem kb_24 : (Int8.ofInt 24).toInt32 = 24 := by decide
theorem kb_32 : (Int8.ofInt 32).toInt32 = 32 := by decide
theorem kb_36 : (Int8.ofInt 36).toInt32 = 36 := by decide
theorem kb_40 : (Int8.ofInt 40).toInt32 = 40 := by decide
theorem kb_42 : (Int8.ofInt 42).toInt32 = 42 := by decide
theorem kb_48 : (Int8.ofInt 48).toInt32 = 48 := by decide
theorem kb_56 : (Int8.ofInt 56).toInt32 = 56 := by decide
theorem kb_57 : (Int8.ofInt 57).toInt32 = 57 := by decide
theorem kb_59 : (Int8.ofInt 59).toInt32 = 59 := by decide
theorem kb_63 : (Int8.ofInt 63).toInt32 = 63 := by decide
theorem kb_90 : (Int8.ofInt 90).toInt32 = 90 := by decide
theorem kb_96 : (Int8.ofInt 96).toInt32 = 96 := by decide
theorem kb_97 : (Int8.ofInt 97).toInt32 = 97 := by decide
theorem kb_98 : (Int8.ofInt 98).toInt32 = 98 := by decide
theorem kb_99 : (Int8.ofInt 99).toInt32 = 99 := by decide
theorem kb_100 : (Int8.ofInt 100).toInt32 = 100 := by decide
theorem kb_120 : (Int8.ofInt 120).toInt32 = 120 := by decide
theorem kb_122 : (Int8.ofInt 122).toInt32 = 122 := by decide
theorem kb_127 : (Int8.ofInt 127).toInt32 = 127 := by decide
theorem kc_m1 : Int32.ofInt (-1) = (-1) := by decide
theorem kc_0 : Int32.ofInt 0 = 0 := by decide
theorem kc_1 : Int32.ofInt 1 = 1 := by decide
theorem kc_2 : Int32.ofInt 2 = 2 := by decide
theorem kc_3 : Int32.ofInt 3 = 3 := by decide
theorem kc_4 : Int32.ofInt 4 = 4 := by decide
theorem kc_5 : Int32.ofInt 5 = 5 := by decide
theorem ki_m8 (x : Int32) : x + Int32.ofInt (-8) = x + (-8) := rfl
theorem ki_1 (x : Int32) : x + Int32.ofInt 1 = x + 1 := rfl
theorem ki_2 (x : Int32) : x + Int32.ofInt 2 = x + 2 := rfl
theorem ki_4 (x : Int32) : x + Int32.ofInt 4 = x + 4 := rfl
theorem ki_8 (x : Int32) : x + Int32.ofInt 8 = x + 8 := rfl
theorem ki_16 (x : Int32) : x + Int32.ofInt 16 = x + 16 := rfl
theorem kl_0 : Int64.ofNat ((0 : Fin 2) : Nat) = 0 := by decide
theorem kl_1 : Int64.ofNat ((1 : Fin 2) : Nat) = 1 := by decide
theorem ks_192 : (Int16.ofInt 192).toInt32 = 192 := by decide
theorem ks_255 : (Int16.ofInt 255).toInt32 = 255 := by decide
theorem ks_256 : (Int16.ofInt 256).toInt32 = 256 := by decide
theorem ks_320 : (Int16.ofInt 320).toInt32 = 320 := by decide
theorem ks_360 : (Int16.ofInt 360).toInt32 = 360 := by decide
theorem ks_450 : (Int16.ofInt 450).toInt32 = 450 := by decide
theorem ks_457 : (Int16.ofInt 457).toInt32 = 457 := by decide
theorem ks_458 : (Int16.ofInt 458).toInt32 = 458 := by decide
theorem ks_480 : (Int16.ofInt 480).toInt32 = 480 := by decide
theorem ks_528 : (Int16.ofInt 528).toInt32 = 528 := by decide
theorem kz_0 : narrow .boolean (.int 0) = .int 0 := rfl
theorem kz_1 : narrow .boolean (.int 1) = .int 1 := rfl
theorem cw_J13_314 : Cond.constantLong RJ13 314 6148914691236517205 ∈ oa_gw := oa_at 753 (by decide +kernel) rfl
theorem cw_J13_316 : Cond.constantLong RJ13 316 3689348814741910323 ∈ oa_gw := oa_at 754 (by decide +kernel) rfl
theorem cw_J13_318 : Cond.constantLong RJ13 318 1085102592571150095 ∈ oa_gw := oa_at 755 (by decide +kernel) rfl
theorem cw_J6_265 : Cond.constant RJ6 265 1431655765 ∈ oa_gw := oa_at 486 (by decide +kernel) rfl
theorem cw_J6_266 : Cond.constant RJ6 266 858993459 ∈ oa_gw := oa_at 487 (by decide +kernel) rfl
theorem cw_J6_267 : Cond.constant RJ6 267 252645135 ∈ oa_gw := oa_at 488 (by decide +kernel) rfl
theorem cw_J6_264 : Cond.constant RJ6 264 65536 ∈ oa_gw := oa_at 785 (by decide +kernel) rfl
theorem ic_X5 : ∀ w ∈ u_ws RX5 TX5 10, w ∈ oa_gw := by decide +kernel
theorem fl_X5_49 : oa_F RX5 49 5 5 false .int := ⟨RX5, TX5, 10, tyX5, rfl, by decide, ic_X5, oa_at 123 (by decide +kernel) rfl, tyX5_ok, nmX5, rfl, rfl⟩
theorem fl_X5_18 : oa_F RX5 18 5 2 true (.array .int) := ⟨RX5, TX5, 10, tyX5, rfl, by decide, ic_X5, oa_at 115 (by decide +kernel) rfl, tyX5_ok, nmX5, rfl, rfl⟩
theorem fl_X5_9 : oa_F RX5 9 5 0 true (.array .int) := ⟨RX5, TX5, 10, tyX5, rfl, by decide, ic_X5, oa_at 110 (by decide +kernel) rfl, tyX5_ok, nmX5, rfl, rfl⟩
theorem hY_J6_bitCount_0f7a4 : oa_Y yJ6_bitCount_0f7a4 cJ6_bitCount_0f7a4 1 (some .int) 1 := ⟨oa_at 485 (by decide +kernel) rfl, oa_at 77 (by decide +kernel) rfl, by decide, by decide, by decide +kernel⟩
theorem hS_J6_bitCount_0f7a4 : Cond.static yJ6_bitCount_0f7a4 ∈ oa_gw := oa_at 484 (by decide +kernel) rfl
theorem lk_X5_78 : Cond.methodLink RX5 78 yJ6_bitCount_0f7a4 ∈ oa_gw := oa_at 483 (by decide +kernel) rfl
theorem fl_X5_15 : oa_F RX5 15 5 1 true (.array .int) := ⟨RX5, TX5, 10, tyX5, rfl, by decide, ic_X5, oa_at 114 (by decide +kernel) rfl, tyX5_ok, nmX5, rfl, rfl⟩
theorem hY_X5_trait : oa_Y yX5_trait cX5_trait 3 (some .int) 2 := ⟨oa_at 478 (by decide +kernel) rfl, oa_at 64 (by decide +kernel) rfl, by decide, by decide, by decide +kernel⟩
theorem hV_X5_trait : oa_YV yX5_trait := ⟨oa_at 476 (by decide +kernel) rfl, oa_at 477 (by decide +kernel) rfl⟩
theorem lk_X5_70 : Cond.methodLink RX5 70 yX5_trait ∈ oa_gw := oa_at 524 (by decide +kernel) rfl
theorem hY_X5_isAngry : oa_Y yX5_isAngry cX5_isAngry 3 (some .boolean) 2 := ⟨oa_at 551 (by decide +kernel) rfl, oa_at 64 (by decide +kernel) rfl, by decide, by decide, by decide +kernel⟩
theorem hV_X5_isAngry : oa_YV yX5_isAngry := ⟨oa_at 549 (by decide +kernel) rfl, oa_at 550 (by decide +kernel) rfl⟩
theorem lk_X5_90 : Cond.methodLink RX5 90 yX5_isAngry ∈ oa_gw := oa_at 574 (by decide +kernel) rfl
theorem lk_X6_296 : Cond.methodLink RX6 296 yJ9_min_7cf53 ∈ oa_gw := oa_at 528 (by decide +kernel) rfl
theorem hS_J9_min_7cf53 : Cond.static yJ9_min_7cf53 ∈ oa_gw := oa_at 529 (by decide +kernel) rfl
theorem hY_J9_min_7cf53 : oa_Y yJ9_min_7cf53 cJ9_min_7cf53 2 (some .int) 2 := ⟨oa_at 530 (by decide +kernel) rfl, oa_at 78 (by decide +kernel) rfl, by decide, by decide, by decide +kernel⟩
theorem hY_X6_costFor : oa_Y yX6_costFor cX6_costFor 4 (some .int) 4 := ⟨oa_at 527 (by decide +kernel) rfl, oa_at 63 (by decide +kernel) rfl, by decide, by decide, by decide +kernel⟩
theorem hS_X6_costFor : Cond.static yX6_costFor ∈ oa_gw := oa_at 526 (by decide +kernel) rfl
theorem hY_X5_minds : oa_Y yX5_minds cX5_minds 3 (some .boolean) 2 := ⟨oa_at 607 (by decide +kernel) rfl, oa_at 64 (by decide +kernel) rfl, by decide, by decide, by decide +kernel⟩
theorem hV_X5_minds : oa_YV yX5_minds := ⟨oa_at 605 (by decide +kernel) rfl, oa_at 606 (by decide +kernel) rfl⟩
theorem lk_X5_113 : Cond.methodLink RX5 113 yX5_minds ∈ oa_gw := oa_at 604 (by decide +kernel) rfl
theorem hY_X5_costOf : oa_Y yX5_costOf cX5_costOf 2 (some .int) 1 := ⟨oa_at 523 (by decide +kernel) rfl, oa_at 64 (by decide +kernel) rfl, by decide, by decide, by decide +kernel⟩
theorem hV_X5_costOf : oa_YV yX5_costOf := ⟨oa_at 521 (by decide +kernel) rfl, oa_at 522 (by decide +kernel) rfl⟩
theorem lk_X5_120 : Cond.methodLink RX5 120 yX5_costOf ∈ oa_gw := oa_at 625 (by decide +kernel) rfl
theorem hY_X5_value : oa_Y yX5_value cX5_value 5 (some .int) 2 := ⟨oa_at 624 (by decide +kernel) rfl, oa_at 64 (by decide +kernel) rfl, by decide, by decide, by decide +kernel⟩
theorem hV_X5_value : oa_YV yX5_value := ⟨oa_at 622 (by decide +kernel) rfl, oa_at 623 (by decide +kernel) rfl⟩
theorem lk_X5_123 : Cond.methodLink RX5 123 yX5_value ∈ oa_gw := oa_at 634 (by decide +kernel) rfl
theorem ic_X0 : ∀ w ∈ u_ws RX0 TX0 2, w ∈ oa_gw := by decide +kernel
theorem fl_X0_9 : oa_F RX0 9 0 0 true (.array .long) := ⟨RX0, TX0, 2, tyX0, rfl, by decide, ic_X0, oa_at 245 (by decide +kernel) rfl, tyX0_ok, nmX0, rfl, rfl⟩
theorem fl_X0_21 : oa_F RX0 21 0 1 false .long := ⟨RX0, TX0, 2, tyX0, rfl, by decide, ic_X0, oa_at 247 (by decide +kernel) rfl, tyX0_ok, nmX0, rfl, rfl⟩
theorem fl_X0_25 : oa_F RX0 25 5 5 false .int := ⟨RX5, TX5, 10, tyX5, rfl, by decide, ic_X5, oa_at 121 (by decide +kernel) rfl, tyX5_ok, nmX5, rfl, rfl⟩
theorem fl_X0_47 : oa_F RX0 47 5 0 true (.array .int) := ⟨RX5, TX5, 10, tyX5, rfl, by decide, ic_X5, oa_at 111 (by decide +kernel) rfl, tyX5_ok, nmX5, rfl, rfl⟩
theorem lk_X0_15 : Cond.methodLink RX0 15 yJ7_fill_d0a16 ∈ oa_gw := oa_at 808 (by decide +kernel) rfl
theorem hY_X5_everybody : oa_Y yX5_everybody cX5_everybody 1 (some .int) 0 := ⟨oa_at 474 (by decide +kernel) rfl, oa_at 64 (by decide +kernel) rfl, by decide, by decide, by decide +kernel⟩
theorem hV_X5_everybody : oa_YV yX5_everybody := ⟨oa_at 472 (by decide +kernel) rfl, oa_at 473 (by decide +kernel) rfl⟩
theorem lk_X0_33 : Cond.methodLink RX0 33 yX5_everybody ∈ oa_gw := oa_at 812 (by decide +kernel) rfl
theorem hY_X5_free : oa_Y yX5_free cX5_free 3 (some .int) 0 := ⟨oa_at 519 (by decide +kernel) rfl, oa_at 64 (by decide +kernel) rfl, by decide, by decide, by decide +kernel⟩
theorem hV_X5_free : oa_YV yX5_free := ⟨oa_at 517 (by decide +kernel) rfl, oa_at 518 (by decide +kernel) rfl⟩
theorem lk_X0_37 : Cond.methodLink RX0 37 yX5_free ∈ oa_gw := oa_at 813 (by decide +kernel) rfl
theorem hY_X5_allOf : oa_Y yX5_allOf cX5_allOf 4 (some .int) 1 := ⟨oa_at 620 (by decide +kernel) rfl, oa_at 64 (by decide +kernel) rfl, by decide, by decide, by decide +kernel⟩
theorem hV_X5_allOf : oa_YV yX5_allOf := ⟨oa_at 618 (by decide +kernel) rfl, oa_at 619 (by decide +kernel) rfl⟩
theorem lk_X0_40 : Cond.methodLink RX0 40 yX5_allOf ∈ oa_gw := oa_at 814 (by decide +kernel) rfl
theorem hY_X5_angryWith : oa_Y yX5_angryWith cX5_angryWith 4 (some .int) 1 := ⟨oa_at 599 (by decide +kernel) rfl, oa_at 64 (by decide +kernel) rfl, by decide, by decide, by decide +kernel⟩
theorem hV_X5_angryWith : oa_YV yX5_angryWith := ⟨oa_at 597 (by decide +kernel) rfl, oa_at 598 (by decide +kernel) rfl⟩
theorem lk_X0_44 : Cond.methodLink RX0 44 yX5_angryWith ∈ oa_gw := oa_at 815 (by decide +kernel) rfl
theorem cw_X0_31 : Cond.constantLong RX0 31 10 ∈ oa_gw := oa_at 811 (by decide +kernel) rfl
theorem lk_X0_51 : Cond.methodLink RX0 51 yJ6_bitCount_0f7a4 ∈ oa_gw := oa_at 816 (by decide +kernel) rfl
theorem hY_X0_weightOf : oa_Y yX0_weightOf cX0_weightOf 6 (some .long) 3 := ⟨oa_at 819 (by decide +kernel) rfl, oa_at 70 (by decide +kernel) rfl, by decide, by decide, by decide +kernel⟩
theorem hS_X0_weightOf : Cond.static yX0_weightOf ∈ oa_gw := oa_at 818 (by decide +kernel) rfl
theorem lk_X0_56 : Cond.methodLink RX0 56 yX0_weightOf ∈ oa_gw := oa_at 817 (by decide +kernel) rfl
theorem hY_X5_choice : oa_Y yX5_choice cX5_choice 7 (some .int) 2 := ⟨oa_at 633 (by decide +kernel) rfl, oa_at 64 (by decide +kernel) rfl, by decide, by decide, by decide +kernel⟩
theorem hV_X5_choice : oa_YV yX5_choice := ⟨oa_at 631 (by decide +kernel) rfl, oa_at 632 (by decide +kernel) rfl⟩
theorem lk_X0_60 : Cond.methodLink RX0 60 yX5_choice ∈ oa_gw := oa_at 820 (by decide +kernel) rfl
theorem ic_X1 : ∀ w ∈ u_ws RX1 TX1 1, w ∈ oa_gw := by decide +kernel
theorem fl_X1_9 : oa_F RX1 9 1 0 true (.array .int) := ⟨RX1, TX1, 1, tyX1, rfl, by decide, ic_X1, oa_at 212 (by decide +kernel) rfl, tyX1_ok, nmX1, rfl, rfl⟩
theorem hY_X1_same : oa_Y yX1_same cX1_same 4 (some .boolean) 2 := ⟨oa_at 718 (by decide +kernel) rfl, oa_at 68 (by decide +kernel) rfl, by decide, by decide, by decide +kernel⟩
theorem hV_X1_same : oa_YV yX1_same := ⟨oa_at 717 (by decide +kernel) rfl, oa_at 15 (by decide +kernel) rfl⟩
theorem lk_X1_29 : Cond.methodLink RX1 29 yX1_same ∈ oa_gw := oa_at 715 (by decide +kernel) rfl
theorem fl_X5_21 : oa_F RX5 21 5 3 true (.array .int) := ⟨RX5, TX5, 10, tyX5, rfl, by decide, ic_X5, oa_at 118 (by decide +kernel) rfl, tyX5_ok, nmX5, rfl, rfl⟩
theorem lk_X1_19 : Cond.methodLink RX1 19 yX5_isAngry ∈ oa_gw := oa_at 709 (by decide +kernel) rfl
theorem hY_X5_ageOf : oa_Y yX5_ageOf cX5_ageOf 3 (some .int) 2 := ⟨oa_at 555 (by decide +kernel) rfl, oa_at 64 (by decide +kernel) rfl, by decide, by decide, by decide +kernel⟩
theorem hV_X5_ageOf : oa_YV yX5_ageOf := ⟨oa_at 553 (by decide +kernel) rfl, oa_at 554 (by decide +kernel) rfl⟩
theorem lk_X1_25 : Cond.methodLink RX1 25 yX5_ageOf ∈ oa_gw := oa_at 710 (by decide +kernel) rfl
theorem hY_X1_rowOf : oa_Y yX1_rowOf cX1_rowOf 4 (some .int) 2 := ⟨oa_at 708 (by decide +kernel) rfl, oa_at 68 (by decide +kernel) rfl, by decide, by decide, by decide +kernel⟩
theorem hS_X1_rowOf : Cond.static yX1_rowOf ∈ oa_gw := oa_at 707 (by decide +kernel) rfl
theorem lk_X1_15 : Cond.methodLink RX1 15 yX1_rowOf ∈ oa_gw := oa_at 706 (by decide +kernel) rfl
theorem fl_X2_25 : oa_F RX2 25 5 5 false .int := ⟨RX5, TX5, 10, tyX5, rfl, by decide, ic_X5, oa_at 122 (by decide +kernel) rfl, tyX5_ok, nmX5, rfl, rfl⟩
theorem ic_X2 : ∀ w ∈ u_ws RX2 TX2 4, w ∈ oa_gw := by decide +kernel
theorem fl_X2_9 : oa_F RX2 9 2 0 true (.array .int) := ⟨RX2, TX2, 4, tyX2, rfl, by decide, ic_X2, oa_at 223 (by decide +kernel) rfl, tyX2_ok, nmX2, rfl, rfl⟩
theorem lk_X2_43 : Cond.methodLink RX2 43 yX5_angryWith ∈ oa_gw := oa_at 791 (by decide +kernel) rfl
theorem fl_X2_15 : oa_F RX2 15 2 1 false .int := ⟨RX2, TX2, 4, tyX2, rfl, by decide, ic_X2, oa_at 224 (by decide +kernel) rfl, tyX2_ok, nmX2, rfl, rfl⟩
theorem fl_X2_22 : oa_F RX2 22 2 3 false .int := ⟨RX2, TX2, 4, tyX2, rfl, by decide, ic_X2, oa_at 228 (by decide +kernel) rfl, tyX2_ok, nmX2, rfl, rfl⟩
theorem fl_X2_19 : oa_F RX2 19 2 2 false .int := ⟨RX2, TX2, 4, tyX2, rfl, by decide, ic_X2, oa_at 226 (by decide +kernel) rfl, tyX2_ok, nmX2, rfl, rfl⟩
theorem lk_X2_50 : Cond.methodLink RX2 50 yJ9_max_7cf53 ∈ oa_gw := oa_at 796 (by decide +kernel) rfl
theorem hS_J9_max_7cf53 : Cond.static yJ9_max_7cf53 ∈ oa_gw := oa_at 797 (by decide +kernel) rfl
theorem hY_J9_max_7cf53 : oa_Y yJ9_max_7cf53 cJ9_max_7cf53 2 (some .int) 2 := ⟨oa_at 798 (by decide +kernel) rfl, oa_at 78 (by decide +kernel) rfl, by decide, by decide, by decide +kernel⟩
theorem hY_J6_numberOfTrailingZeros_0f7a4 : oa_Y yJ6_numberOfTrailingZeros_0f7a4 cJ6_numberOfTrailingZeros_0f7a4 2 (some .int) 1 := ⟨oa_at 784 (by decide +kernel) rfl, oa_at 77 (by decide +kernel) rfl, by decide, by decide, by decide +kernel⟩
theorem hS_J6_numberOfTrailingZeros_0f7a4 : Cond.static yJ6_numberOfTrailingZeros_0f7a4 ∈ oa_gw := oa_at 783 (by decide +kernel) rfl
theorem lk_X2_30 : Cond.methodLink RX2 30 yJ6_numberOfTrailingZeros_0f7a4 ∈ oa_gw := oa_at 782 (by decide +kernel) rfl
theorem lk_X2_36 : Cond.methodLink RX2 36 yJ6_bitCount_0f7a4 ∈ oa_gw := oa_at 786 (by decide +kernel) rfl
theorem hY_X2_endsOf : oa_Y yX2_endsOf cX2_endsOf 6 (some .int) 3 := ⟨oa_at 790 (by decide +kernel) rfl, oa_at 69 (by decide +kernel) rfl, by decide, by decide, by decide +kernel⟩
theorem hV_X2_endsOf : oa_YV yX2_endsOf := ⟨oa_at 789 (by decide +kernel) rfl, oa_at 17 (by decide +kernel) rfl⟩
theorem lk_X2_39 : Cond.methodLink RX2 39 yX2_endsOf ∈ oa_gw := oa_at 787 (by decide +kernel) rfl
theorem hY_X2_noteRing : oa_Y yX2_noteRing cX2_noteRing 3 none 2 := ⟨oa_at 795 (by decide +kernel) rfl, oa_at 69 (by decide +kernel) rfl, by decide, by decide, by decide +kernel⟩
theorem hV_X2_noteRing : oa_YV yX2_noteRing := ⟨oa_at 794 (by decide +kernel) rfl, oa_at 18 (by decide +kernel) rfl⟩
theorem lk_X2_46 : Cond.methodLink RX2 46 yX2_noteRing ∈ oa_gw := oa_at 792 (by decide +kernel) rfl
theorem ic_X3 : ∀ w ∈ u_ws RX3 TX3 3, w ∈ oa_gw := by decide +kernel
theorem fl_X3_15 : oa_F RX3 15 3 1 false .int := ⟨RX3, TX3, 3, tyX3, rfl, by decide, ic_X3, oa_at 262 (by decide +kernel) rfl, tyX3_ok, nmX3, rfl, rfl⟩
theorem fl_X3_25 : oa_F RX3 25 3 2 false .int := ⟨RX3, TX3, 3, tyX3, rfl, by decide, ic_X3, oa_at 264 (by decide +kernel) rfl, tyX3_ok, nmX3, rfl, rfl⟩
theorem fl_X3_9 : oa_F RX3 9 3 0 true (.array .int) := ⟨RX3, TX3, 3, tyX3, rfl, by decide, ic_X3, oa_at 260 (by decide +kernel) rfl, tyX3_ok, nmX3, rfl, rfl⟩
theorem hY_X3_hasCell : oa_Y yX3_hasCell cX3_hasCell 3 (some .boolean) 1 := ⟨oa_at 867 (by decide +kernel) rfl, oa_at 71 (by decide +kernel) rfl, by decide, by decide, by decide +kernel⟩
theorem hV_X3_hasCell : oa_YV yX3_hasCell := ⟨oa_at 865 (by decide +kernel) rfl, oa_at 866 (by decide +kernel) rfl⟩
theorem lk_X3_28 : Cond.methodLink RX3 28 yX3_hasCell ∈ oa_gw := oa_at 864 (by decide +kernel) rfl
theorem hY_X3_lowestBits : oa_Y yX3_lowestBits cX3_lowestBits 2 (some .int) 1 := ⟨oa_at 871 (by decide +kernel) rfl, oa_at 71 (by decide +kernel) rfl, by decide, by decide, by decide +kernel⟩
theorem hV_X3_lowestBits : oa_YV yX3_lowestBits := ⟨oa_at 870 (by decide +kernel) rfl, oa_at 19 (by decide +kernel) rfl⟩
theorem lk_X3_32 : Cond.methodLink RX3 32 yX3_lowestBits ∈ oa_gw := oa_at 868 (by decide +kernel) rfl
theorem lk_X3_19 : Cond.methodLink RX3 19 yJ7_fill_53178 ∈ oa_gw := oa_at 855 (by decide +kernel) rfl
theorem ic_X4 : ∀ w ∈ u_ws RX4 TX4 11, w ∈ oa_gw := by decide +kernel
theorem fl_X4_33 : oa_F RX4 33 4 3 false .int := ⟨RX4, TX4, 11, tyX4, rfl, by decide, ic_X4, oa_at 169 (by decide +kernel) rfl, tyX4_ok, nmX4, rfl, rfl⟩
theorem fl_X4_69 : oa_F RX4 69 4 4 false .int := ⟨RX4, TX4, 11, tyX4, rfl, by decide, ic_X4, oa_at 172 (by decide +kernel) rfl, tyX4_ok, nmX4, rfl, rfl⟩
theorem fl_X4_39 : oa_F RX4 39 4 6 false .int := ⟨RX4, TX4, 11, tyX4, rfl, by decide, ic_X4, oa_at 175 (by decide +kernel) rfl, tyX4_ok, nmX4, rfl, rfl⟩
theorem fl_X4_22 : oa_F RX4 22 4 2 false .int := ⟨RX4, TX4, 11, tyX4, rfl, by decide, ic_X4, oa_at 167 (by decide +kernel) rfl, tyX4_ok, nmX4, rfl, rfl⟩
theorem fl_X4_9 : oa_F RX4 9 4 0 true (.array .int) := ⟨RX4, TX4, 11, tyX4, rfl, by decide, ic_X4, oa_at 164 (by decide +kernel) rfl, tyX4_ok, nmX4, rfl, rfl⟩
theorem fl_X4_72 : oa_F RX4 72 4 8 false .int := ⟨RX4, TX4, 11, tyX4, rfl, by decide, ic_X4, oa_at 177 (by decide +kernel) rfl, tyX4_ok, nmX4, rfl, rfl⟩
theorem fl_X4_49 : oa_F RX4 49 4 7 false .int := ⟨RX4, TX4, 11, tyX4, rfl, by decide, ic_X4, oa_at 176 (by decide +kernel) rfl, tyX4_ok, nmX4, rfl, rfl⟩
theorem hY_X4_kindOf : oa_Y yX4_kindOf cX4_kindOf 1 (some .int) 1 := ⟨oa_at 340 (by decide +kernel) rfl, oa_at 67 (by decide +kernel) rfl, by decide, by decide, by decide +kernel⟩
theorem hS_X4_kindOf : Cond.static yX4_kindOf ∈ oa_gw := oa_at 339 (by decide +kernel) rfl
theorem lk_X4_75 : Cond.methodLink RX4 75 yX4_kindOf ∈ oa_gw := oa_at 338 (by decide +kernel) rfl
theorem hY_X4_fail : oa_Y yX4_fail cX4_fail 3 (some .boolean) 2 := ⟨oa_at 344 (by decide +kernel) rfl, oa_at 67 (by decide +kernel) rfl, by decide, by decide, by decide +kernel⟩
theorem hV_X4_fail : oa_YV yX4_fail := ⟨oa_at 343 (by decide +kernel) rfl, oa_at 1 (by decide +kernel) rfl⟩
theorem lk_X4_79 : Cond.methodLink RX4 79 yX4_fail ∈ oa_gw := oa_at 341 (by decide +kernel) rfl
theorem fl_X4_18 : oa_F RX4 18 4 1 true (.object "OneAnger$Village") := ⟨RX4, TX4, 11, tyX4, rfl, by decide, ic_X4, oa_at 165 (by decide +kernel) rfl, tyX4_ok, nmX4, rfl, rfl⟩
theorem fl_X4_125 : oa_F RX4 125 5 5 false .int := ⟨RX5, TX5, 10, tyX5, rfl, by decide, ic_X5, oa_at 124 (by decide +kernel) rfl, tyX5_ok, nmX5, rfl, rfl⟩
theorem fl_X4_178 : oa_F RX4 178 5 2 true (.array .int) := ⟨RX5, TX5, 10, tyX5, rfl, by decide, ic_X5, oa_at 117 (by decide +kernel) rfl, tyX5_ok, nmX5, rfl, rfl⟩
theorem fl_X4_119 : oa_F RX4 119 5 0 true (.array .int) := ⟨RX5, TX5, 10, tyX5, rfl, by decide, ic_X5, oa_at 113 (by decide +kernel) rfl, tyX5_ok, nmX5, rfl, rfl⟩
theorem lk_X4_171 : Cond.methodLink RX4 171 yX5_everybody ∈ oa_gw := oa_at 471 (by decide +kernel) rfl
theorem lk_X4_174 : Cond.methodLink RX4 174 yX5_trait ∈ oa_gw := oa_at 475 (by decide +kernel) rfl
theorem hY_X5_angersOf : oa_Y yX5_angersOf cX5_angersOf 2 (some .int) 1 := ⟨oa_at 482 (by decide +kernel) rfl, oa_at 64 (by decide +kernel) rfl, by decide, by decide, by decide +kernel⟩
theorem hV_X5_angersOf : oa_YV yX5_angersOf := ⟨oa_at 480 (by decide +kernel) rfl, oa_at 481 (by decide +kernel) rfl⟩
theorem lk_X4_181 : Cond.methodLink RX4 181 yX5_angersOf ∈ oa_gw := oa_at 479 (by decide +kernel) rfl
theorem hY_X6_within : oa_Y yX6_within cX6_within 3 (some .boolean) 3 := ⟨oa_at 324 (by decide +kernel) rfl, oa_at 63 (by decide +kernel) rfl, by decide, by decide, by decide +kernel⟩
theorem hS_X6_within : Cond.static yX6_within ∈ oa_gw := oa_at 323 (by decide +kernel) rfl
theorem lk_X4_83 : Cond.methodLink RX4 83 yJ0_length_8abf5 ∈ oa_gw := oa_at 354 (by decide +kernel) rfl
theorem lk_X4_88 : Cond.methodLink RX4 88 yJ0_charAt_5068e ∈ oa_gw := oa_at 364 (by decide +kernel) rfl
theorem hY_X4_isName : oa_Y yX4_isName cX4_isName 3 (some .boolean) 1 := ⟨oa_at 353 (by decide +kernel) rfl, oa_at 67 (by decide +kernel) rfl, by decide, by decide, by decide +kernel⟩
theorem hV_X4_isName : oa_YV yX4_isName := ⟨oa_at 352 (by decide +kernel) rfl, oa_at 3 (by decide +kernel) rfl⟩
theorem lk_X4_100 : Cond.methodLink RX4 100 yX4_isName ∈ oa_gw := oa_at 350 (by decide +kernel) rfl
theorem fl_X4_95 : oa_F RX4 95 4 9 false .int := ⟨RX4, TX4, 11, tyX4, rfl, by decide, ic_X4, oa_at 178 (by decide +kernel) rfl, tyX4_ok, nmX4, rfl, rfl⟩
theorem hY_X5_putTrait : oa_Y yX5_putTrait cX5_putTrait 4 none 3 := ⟨oa_at 109 (by decide +kernel) rfl, oa_at 64 (by decide +kernel) rfl, by decide, by decide, by decide +kernel⟩
theorem hV_X5_putTrait : oa_YV yX5_putTrait := ⟨oa_at 107 (by decide +kernel) rfl, oa_at 108 (by decide +kernel) rfl⟩
theorem lk_X4_131 : Cond.methodLink RX4 131 yX5_putTrait ∈ oa_gw := oa_at 422 (by decide +kernel) rfl
theorem hY_X5_start : oa_Y yX5_start cX5_start 3 none 2 := ⟨oa_at 454 (by decide +kernel) rfl, oa_at 64 (by decide +kernel) rfl, by decide, by decide, by decide +kernel⟩
theorem hV_X5_start : oa_YV yX5_start := ⟨oa_at 452 (by decide +kernel) rfl, oa_at 453 (by decide +kernel) rfl⟩
theorem lk_X4_169 : Cond.methodLink RX4 169 yX5_start ∈ oa_gw := oa_at 451 (by decide +kernel) rfl
theorem fl_X4_36 : oa_F RX4 36 4 5 false .int := ⟨RX4, TX4, 11, tyX4, rfl, by decide, ic_X4, oa_at 173 (by decide +kernel) rfl, tyX4_ok, nmX4, rfl, rfl⟩
theorem hY_X4_advance : oa_Y yX4_advance cX4_advance 1 (some .boolean) 0 := ⟨oa_at 337 (by decide +kernel) rfl, oa_at 67 (by decide +kernel) rfl, by decide, by decide, by decide +kernel⟩
theorem hV_X4_advance : oa_YV yX4_advance := ⟨oa_at 336 (by decide +kernel) rfl, oa_at 0 (by decide +kernel) rfl⟩
theorem lk_X4_45 : Cond.methodLink RX4 45 yX4_advance ∈ oa_gw := oa_at 334 (by decide +kernel) rfl
theorem hY_X4_misplaced : oa_Y yX4_misplaced cX4_misplaced 1 (some .boolean) 0 := ⟨oa_at 408 (by decide +kernel) rfl, oa_at 67 (by decide +kernel) rfl, by decide, by decide, by decide +kernel⟩
theorem hV_X4_misplaced : oa_YV yX4_misplaced := ⟨oa_at 407 (by decide +kernel) rfl, oa_at 4 (by decide +kernel) rfl⟩
theorem lk_X4_56 : Cond.methodLink RX4 56 yX4_misplaced ∈ oa_gw := oa_at 405 (by decide +kernel) rfl
theorem hY_X4_valueOfToken : oa_Y yX4_valueOfToken cX4_valueOfToken 3 (some .int) 0 := ⟨oa_at 434 (by decide +kernel) rfl, oa_at 67 (by decide +kernel) rfl, by decide, by decide, by decide +kernel⟩
theorem hV_X4_valueOfToken : oa_YV yX4_valueOfToken := ⟨oa_at 433 (by decide +kernel) rfl, oa_at 8 (by decide +kernel) rfl⟩
theorem lk_X4_92 : Cond.methodLink RX4 92 yX4_valueOfToken ∈ oa_gw := oa_at 431 (by decide +kernel) rfl
theorem hY_X4_withNamed : oa_Y yX4_withNamed cX4_withNamed 1 (some .int) 0 := ⟨oa_at 442 (by decide +kernel) rfl, oa_at 67 (by decide +kernel) rfl, by decide, by decide, by decide +kernel⟩
theorem hV_X4_withNamed : oa_YV yX4_withNamed := ⟨oa_at 441 (by decide +kernel) rfl, oa_at 10 (by decide +kernel) rfl⟩
theorem lk_X4_162 : Cond.methodLink RX4 162 yX4_withNamed ∈ oa_gw := oa_at 439 (by decide +kernel) rfl
theorem hY_X4_noteWith : oa_Y yX4_noteWith cX4_noteWith 3 none 2 := ⟨oa_at 450 (by decide +kernel) rfl, oa_at 67 (by decide +kernel) rfl, by decide, by decide, by decide +kernel⟩
theorem hV_X4_noteWith : oa_YV yX4_noteWith := ⟨oa_at 449 (by decide +kernel) rfl, oa_at 11 (by decide +kernel) rfl⟩
theorem lk_X4_165 : Cond.methodLink RX4 165 yX4_noteWith ∈ oa_gw := oa_at 447 (by decide +kernel) rfl
theorem hY_X4_takeNumber : oa_Y yX4_takeNumber cX4_takeNumber 3 (some .boolean) 2 := ⟨oa_at 430 (by decide +kernel) rfl, oa_at 67 (by decide +kernel) rfl, by decide, by decide, by decide +kernel⟩
theorem hV_X4_takeNumber : oa_YV yX4_takeNumber := ⟨oa_at 429 (by decide +kernel) rfl, oa_at 7 (by decide +kernel) rfl⟩
theorem lk_X4_116 : Cond.methodLink RX4 116 yX4_takeNumber ∈ oa_gw := oa_at 427 (by decide +kernel) rfl
theorem hY_X4_sortNamed : oa_Y yX4_sortNamed cX4_sortNamed 1 (some .int) 0 := ⟨oa_at 416 (by decide +kernel) rfl, oa_at 67 (by decide +kernel) rfl, by decide, by decide, by decide +kernel⟩
theorem hV_X4_sortNamed : oa_YV yX4_sortNamed := ⟨oa_at 415 (by decide +kernel) rfl, oa_at 6 (by decide +kernel) rfl⟩
theorem lk_X4_128 : Cond.methodLink RX4 128 yX4_sortNamed ∈ oa_gw := oa_at 413 (by decide +kernel) rfl
theorem hY_X4_takeWiths : oa_Y yX4_takeWiths cX4_takeWiths 5 (some .boolean) 1 := ⟨oa_at 438 (by decide +kernel) rfl, oa_at 67 (by decide +kernel) rfl, by decide, by decide, by decide +kernel⟩
theorem hV_X4_takeWiths : oa_YV yX4_takeWiths := ⟨oa_at 437 (by decide +kernel) rfl, oa_at 9 (by decide +kernel) rfl⟩
theorem lk_X4_141 : Cond.methodLink RX4 141 yX4_takeWiths ∈ oa_gw := oa_at 435 (by decide +kernel) rfl
theorem hY_X4_takeClosing : oa_Y yX4_takeClosing cX4_takeClosing 1 (some .boolean) 0 := ⟨oa_at 458 (by decide +kernel) rfl, oa_at 67 (by decide +kernel) rfl, by decide, by decide, by decide +kernel⟩
theorem hV_X4_takeClosing : oa_YV yX4_takeClosing := ⟨oa_at 457 (by decide +kernel) rfl, oa_at 12 (by decide +kernel) rfl⟩
theorem lk_X4_122 : Cond.methodLink RX4 122 yX4_takeClosing ∈ oa_gw := oa_at 455 (by decide +kernel) rfl
theorem fl_X4_42 : oa_F RX4 42 4 10 false .int := ⟨RX4, TX4, 11, tyX4, rfl, by decide, ic_X4, oa_at 179 (by decide +kernel) rfl, tyX4_ok, nmX4, rfl, rfl⟩
theorem fl_X5_24 : oa_F RX5 24 5 4 true (.array .int) := ⟨RX5, TX5, 10, tyX5, rfl, by decide, ic_X5, oa_at 119 (by decide +kernel) rfl, tyX5_ok, nmX5, rfl, rfl⟩
theorem fl_X5_53 : oa_F RX5 53 5 6 false .int := ⟨RX5, TX5, 10, tyX5, rfl, by decide, ic_X5, oa_at 126 (by decide +kernel) rfl, tyX5_ok, nmX5, rfl, rfl⟩
theorem fl_X5_56 : oa_F RX5 56 5 7 false .int := ⟨RX5, TX5, 10, tyX5, rfl, by decide, ic_X5, oa_at 128 (by decide +kernel) rfl, tyX5_ok, nmX5, rfl, rfl⟩
theorem fl_X5_59 : oa_F RX5 59 5 8 false .int := ⟨RX5, TX5, 10, tyX5, rfl, by decide, ic_X5, oa_at 130 (by decide +kernel) rfl, tyX5_ok, nmX5, rfl, rfl⟩
theorem lk_X5_33 : Cond.methodLink RX5 33 arraycopyName ∈ oa_gw := oa_at 100 (by decide +kernel) rfl
theorem lk_X5_39 : Cond.methodLink RX5 39 yJ7_fill_53178 ∈ oa_gw := oa_at 103 (by decide +kernel) rfl
theorem lk_X5_45 : Cond.methodLink RX5 45 yX5_putTrait ∈ oa_gw := oa_at 106 (by decide +kernel) rfl
theorem hY_X5_clear : oa_Y yX5_clear cX5_clear 2 none 0 := ⟨oa_at 97 (by decide +kernel) rfl, oa_at 64 (by decide +kernel) rfl, by decide, by decide, by decide +kernel⟩
theorem hV_X5_clear : oa_YV yX5_clear := ⟨oa_at 95 (by decide +kernel) rfl, oa_at 96 (by decide +kernel) rfl⟩
theorem lk_X4_30 : Cond.methodLink RX4 30 yX5_clear ∈ oa_gw := oa_at 333 (by decide +kernel) rfl
theorem hY_X4_lineNamed : oa_Y yX4_lineNamed cX4_lineNamed 1 (some .int) 0 := ⟨oa_at 348 (by decide +kernel) rfl, oa_at 67 (by decide +kernel) rfl, by decide, by decide, by decide +kernel⟩
theorem hV_X4_lineNamed : oa_YV yX4_lineNamed := ⟨oa_at 347 (by decide +kernel) rfl, oa_at 2 (by decide +kernel) rfl⟩
theorem lk_X4_52 : Cond.methodLink RX4 52 yX4_lineNamed ∈ oa_gw := oa_at 345 (by decide +kernel) rfl
theorem hY_X4_takeRule : oa_Y yX4_takeRule cX4_takeRule 2 (some .boolean) 1 := ⟨oa_at 462 (by decide +kernel) rfl, oa_at 67 (by decide +kernel) rfl, by decide, by decide, by decide +kernel⟩
theorem hV_X4_takeRule : oa_YV yX4_takeRule := ⟨oa_at 461 (by decide +kernel) rfl, oa_at 13 (by decide +kernel) rfl⟩
theorem lk_X4_62 : Cond.methodLink RX4 62 yX4_takeRule ∈ oa_gw := oa_at 459 (by decide +kernel) rfl
theorem hY_X4_takeOne : oa_Y yX4_takeOne cX4_takeOne 4 (some .boolean) 0 := ⟨oa_at 412 (by decide +kernel) rfl, oa_at 67 (by decide +kernel) rfl, by decide, by decide, by decide +kernel⟩
theorem hV_X4_takeOne : oa_YV yX4_takeOne := ⟨oa_at 411 (by decide +kernel) rfl, oa_at 5 (by decide +kernel) rfl⟩
theorem lk_X4_59 : Cond.methodLink RX4 59 yX4_takeOne ∈ oa_gw := oa_at 409 (by decide +kernel) rfl
theorem hY_X4_checkAll : oa_Y yX4_checkAll cX4_checkAll 7 none 0 := ⟨oa_at 470 (by decide +kernel) rfl, oa_at 67 (by decide +kernel) rfl, by decide, by decide, by decide +kernel⟩
theorem hV_X4_checkAll : oa_YV yX4_checkAll := ⟨oa_at 469 (by decide +kernel) rfl, oa_at 14 (by decide +kernel) rfl⟩
theorem lk_X4_66 : Cond.methodLink RX4 66 yX4_checkAll ∈ oa_gw := oa_at 467 (by decide +kernel) rfl
theorem lk_X5_100 : Cond.methodLink RX5 100 yX5_free ∈ oa_gw := oa_at 516 (by decide +kernel) rfl
theorem lk_X5_104 : Cond.methodLink RX5 104 yX5_angryWith ∈ oa_gw := oa_at 596 (by decide +kernel) rfl
theorem hY_X5_able : oa_Y yX5_able cX5_able 2 (some .int) 1 := ⟨oa_at 595 (by decide +kernel) rfl, oa_at 64 (by decide +kernel) rfl, by decide, by decide, by decide +kernel⟩
theorem hV_X5_able : oa_YV yX5_able := ⟨oa_at 593 (by decide +kernel) rfl, oa_at 594 (by decide +kernel) rfl⟩
theorem lk_X5_107 : Cond.methodLink RX5 107 yX5_able ∈ oa_gw := oa_at 616 (by decide +kernel) rfl
theorem lk_X5_110 : Cond.methodLink RX5 110 yX5_allOf ∈ oa_gw := oa_at 617 (by decide +kernel) rfl
theorem lk_X5_84 : Cond.methodLink RX5 84 yX5_angersOf ∈ oa_gw := oa_at 577 (by decide +kernel) rfl
theorem hY_X5_has : oa_Y yX5_has cX5_has 2 (some .boolean) 1 := ⟨oa_at 510 (by decide +kernel) rfl, oa_at 64 (by decide +kernel) rfl, by decide, by decide, by decide +kernel⟩
theorem hV_X5_has : oa_YV yX5_has := ⟨oa_at 508 (by decide +kernel) rfl, oa_at 509 (by decide +kernel) rfl⟩
theorem lk_X5_66 : Cond.methodLink RX5 66 yX5_has ∈ oa_gw := oa_at 547 (by decide +kernel) rfl
theorem hY_X5_hasTwo : oa_Y yX5_hasTwo cX5_hasTwo 3 (some .boolean) 2 := ⟨oa_at 546 (by decide +kernel) rfl, oa_at 64 (by decide +kernel) rfl, by decide, by decide, by decide +kernel⟩
theorem hV_X5_hasTwo : oa_YV yX5_hasTwo := ⟨oa_at 544 (by decide +kernel) rfl, oa_at 545 (by decide +kernel) rfl⟩
theorem lk_X5_74 : Cond.methodLink RX5 74 yX5_hasTwo ∈ oa_gw := oa_at 573 (by decide +kernel) rfl
theorem hY_X5_canMeet : oa_Y yX5_canMeet cX5_canMeet 3 (some .boolean) 2 := ⟨oa_at 572 (by decide +kernel) rfl, oa_at 64 (by decide +kernel) rfl, by decide, by decide, by decide +kernel⟩
theorem hV_X5_canMeet : oa_YV yX5_canMeet := ⟨oa_at 570 (by decide +kernel) rfl, oa_at 571 (by decide +kernel) rfl⟩
theorem lk_X5_87 : Cond.methodLink RX5 87 yX5_canMeet ∈ oa_gw := oa_at 569 (by decide +kernel) rfl
theorem hY_X5_isFree : oa_Y yX5_isFree cX5_isFree 2 (some .boolean) 1 := ⟨oa_at 515 (by decide +kernel) rfl, oa_at 64 (by decide +kernel) rfl, by decide, by decide, by decide +kernel⟩
theorem hV_X5_isFree : oa_YV yX5_isFree := ⟨oa_at 513 (by decide +kernel) rfl, oa_at 514 (by decide +kernel) rfl⟩
theorem lk_X5_93 : Cond.methodLink RX5 93 yX5_isFree ∈ oa_gw := oa_at 575 (by decide +kernel) rfl
theorem lk_X5_96 : Cond.methodLink RX5 96 yX5_start ∈ oa_gw := oa_at 576 (by decide +kernel) rfl
theorem hY_X5_minders : oa_Y yX5_minders cX5_minders 5 (some .int) 2 := ⟨oa_at 603 (by decide +kernel) rfl, oa_at 64 (by decide +kernel) rfl, by decide, by decide, by decide +kernel⟩
theorem hV_X5_minders : oa_YV yX5_minders := ⟨oa_at 601 (by decide +kernel) rfl, oa_at 602 (by decide +kernel) rfl⟩
theorem lk_X5_126 : Cond.methodLink RX5 126 yX5_minders ∈ oa_gw := oa_at 643 (by decide +kernel) rfl
theorem lk_X5_153 : Cond.methodLink RX5 153 yX5_ageOf ∈ oa_gw := oa_at 671 (by decide +kernel) rfl
theorem hY_X5_stop : oa_Y yX5_stop cX5_stop 3 none 2 := ⟨oa_at 586 (by decide +kernel) rfl, oa_at 64 (by decide +kernel) rfl, by decide, by decide, by decide +kernel⟩
theorem hV_X5_stop : oa_YV yX5_stop := ⟨oa_at 584 (by decide +kernel) rfl, oa_at 585 (by decide +kernel) rfl⟩
theorem lk_X5_156 : Cond.methodLink RX5 156 yX5_stop ∈ oa_gw := oa_at 672 (by decide +kernel) rfl
theorem hY_X5_endOne : oa_Y yX5_endOne cX5_endOne 6 none 2 := ⟨oa_at 670 (by decide +kernel) rfl, oa_at 64 (by decide +kernel) rfl, by decide, by decide, by decide +kernel⟩
theorem hV_X5_endOne : oa_YV yX5_endOne := ⟨oa_at 668 (by decide +kernel) rfl, oa_at 669 (by decide +kernel) rfl⟩
theorem lk_X5_150 : Cond.methodLink RX5 150 yX5_endOne ∈ oa_gw := oa_at 667 (by decide +kernel) rfl
theorem hY_X5_ableAsSeen : oa_Y yX5_ableAsSeen cX5_ableAsSeen 2 (some .int) 1 := ⟨oa_at 615 (by decide +kernel) rfl, oa_at 64 (by decide +kernel) rfl, by decide, by decide, by decide +kernel⟩
theorem hV_X5_ableAsSeen : oa_YV yX5_ableAsSeen := ⟨oa_at 613 (by decide +kernel) rfl, oa_at 614 (by decide +kernel) rfl⟩
theorem lk_X5_141 : Cond.methodLink RX5 141 yX5_ableAsSeen ∈ oa_gw := oa_at 656 (by decide +kernel) rfl
theorem hY_X5_openWrongsGuarded : oa_Y yX5_openWrongsGuarded cX5_openWrongsGuarded 8 (some .long) 2 := ⟨oa_at 685 (by decide +kernel) rfl, oa_at 64 (by decide +kernel) rfl, by decide, by decide, by decide +kernel⟩
theorem hV_X5_openWrongsGuarded : oa_YV yX5_openWrongsGuarded := ⟨oa_at 683 (by decide +kernel) rfl, oa_at 684 (by decide +kernel) rfl⟩
theorem lk_X5_159 : Cond.methodLink RX5 159 yX5_openWrongsGuarded ∈ oa_gw := oa_at 682 (by decide +kernel) rfl
theorem fl_X5_129 : oa_F RX5 129 5 9 false .int := ⟨RX5, TX5, 10, tyX5, rfl, by decide, ic_X5, oa_at 133 (by decide +kernel) rfl, tyX5_ok, nmX5, rfl, rfl⟩
theorem lk_X5_144 : Cond.methodLink RX5 144 yX5_choice ∈ oa_gw := oa_at 657 (by decide +kernel) rfl
theorem hY_X5_doWrong : oa_Y yX5_doWrong cX5_doWrong 5 none 2 := ⟨oa_at 642 (by decide +kernel) rfl, oa_at 64 (by decide +kernel) rfl, by decide, by decide, by decide +kernel⟩
theorem hV_X5_doWrong : oa_YV yX5_doWrong := ⟨oa_at 640 (by decide +kernel) rfl, oa_at 641 (by decide +kernel) rfl⟩
theorem lk_X5_147 : Cond.methodLink RX5 147 yX5_doWrong ∈ oa_gw := oa_at 658 (by decide +kernel) rfl
theorem hY_X5_wrongAll : oa_Y yX5_wrongAll cX5_wrongAll 3 none 0 := ⟨oa_at 655 (by decide +kernel) rfl, oa_at 64 (by decide +kernel) rfl, by decide, by decide, by decide +kernel⟩
theorem hV_X5_wrongAll : oa_YV yX5_wrongAll := ⟨oa_at 653 (by decide +kernel) rfl, oa_at 654 (by decide +kernel) rfl⟩
theorem lk_X5_132 : Cond.methodLink RX5 132 yX5_wrongAll ∈ oa_gw := oa_at 652 (by decide +kernel) rfl
theorem hY_X5_hurtAll : oa_Y yX5_hurtAll cX5_hurtAll 3 none 0 := ⟨oa_at 662 (by decide +kernel) rfl, oa_at 64 (by decide +kernel) rfl, by decide, by decide, by decide +kernel⟩
theorem hV_X5_hurtAll : oa_YV yX5_hurtAll := ⟨oa_at 660 (by decide +kernel) rfl, oa_at 661 (by decide +kernel) rfl⟩
theorem lk_X5_135 : Cond.methodLink RX5 135 yX5_hurtAll ∈ oa_gw := oa_at 659 (by decide +kernel) rfl
theorem hY_X5_endSome : oa_Y yX5_endSome cX5_endSome 3 none 0 := ⟨oa_at 666 (by decide +kernel) rfl, oa_at 64 (by decide +kernel) rfl, by decide, by decide, by decide +kernel⟩
theorem hV_X5_endSome : oa_YV yX5_endSome := ⟨oa_at 664 (by decide +kernel) rfl, oa_at 665 (by decide +kernel) rfl⟩
theorem lk_X5_138 : Cond.methodLink RX5 138 yX5_endSome ∈ oa_gw := oa_at 663 (by decide +kernel) rfl
theorem ic_X6 : ∀ w ∈ u_ws RX6 TX6 11, w ∈ oa_gw := by decide +kernel
theorem fl_X6_16 : oa_F RX6 16 6 1 true (.object "OneAnger$Village") := ⟨RX6, TX6, 11, tyX6, rfl, by decide, ic_X6, oa_at 273 (by decide +kernel) rfl, tyX6_ok, nmX6, rfl, rfl⟩
theorem fl_X6_10 : oa_F RX6 10 6 0 true (.object "OneAnger$Village") := ⟨RX6, TX6, 11, tyX6, rfl, by decide, ic_X6, oa_at 272 (by decide +kernel) rfl, tyX6_ok, nmX6, rfl, rfl⟩
theorem fl_X6_43 : oa_F RX6 43 6 6 true (.object "OneAnger$Past") := ⟨RX6, TX6, 11, tyX6, rfl, by decide, ic_X6, oa_at 278 (by decide +kernel) rfl, tyX6_ok, nmX6, rfl, rfl⟩
theorem lk_X6_96 : Cond.methodLink RX6 96 yX6_within ∈ oa_gw := oa_at 502 (by decide +kernel) rfl
theorem hY_X5_copyOf : oa_Y yX5_copyOf cX5_copyOf 2 none 1 := ⟨oa_at 492 (by decide +kernel) rfl, oa_at 64 (by decide +kernel) rfl, by decide, by decide, by decide +kernel⟩
theorem hV_X5_copyOf : oa_YV yX5_copyOf := ⟨oa_at 490 (by decide +kernel) rfl, oa_at 491 (by decide +kernel) rfl⟩
theorem lk_X6_89 : Cond.methodLink RX6 89 yX5_copyOf ∈ oa_gw := oa_at 489 (by decide +kernel) rfl
theorem hY_X1_note : oa_Y yX1_note cX1_note 4 none 2 := ⟨oa_at 705 (by decide +kernel) rfl, oa_at 68 (by decide +kernel) rfl, by decide, by decide, by decide +kernel⟩
theorem hV_X1_note : oa_YV yX1_note := ⟨oa_at 703 (by decide +kernel) rfl, oa_at 704 (by decide +kernel) rfl⟩
theorem lk_X6_202 : Cond.methodLink RX6 202 yX1_note ∈ oa_gw := oa_at 702 (by decide +kernel) rfl
theorem hY_X5_passWeeks : oa_Y yX5_passWeeks cX5_passWeeks 4 (some .int) 1 := ⟨oa_at 651 (by decide +kernel) rfl, oa_at 64 (by decide +kernel) rfl, by decide, by decide, by decide +kernel⟩
theorem hV_X5_passWeeks : oa_YV yX5_passWeeks := ⟨oa_at 649 (by decide +kernel) rfl, oa_at 650 (by decide +kernel) rfl⟩
theorem lk_X6_176 : Cond.methodLink RX6 176 yX5_passWeeks ∈ oa_gw := oa_at 648 (by decide +kernel) rfl
theorem hY_X1_hasLike : oa_Y yX1_hasLike cX1_hasLike 4 (some .boolean) 2 := ⟨oa_at 714 (by decide +kernel) rfl, oa_at 68 (by decide +kernel) rfl, by decide, by decide, by decide +kernel⟩
theorem hV_X1_hasLike : oa_YV yX1_hasLike := ⟨oa_at 712 (by decide +kernel) rfl, oa_at 713 (by decide +kernel) rfl⟩
theorem lk_X6_206 : Cond.methodLink RX6 206 yX1_hasLike ∈ oa_gw := oa_at 711 (by decide +kernel) rfl
theorem lk_X6_222 : Cond.methodLink RX6 222 yX5_everybody ∈ oa_gw := oa_at 745 (by decide +kernel) rfl
theorem hY_X5_makeReady : oa_Y yX5_makeReady cX5_makeReady 3 none 1 := ⟨oa_at 740 (by decide +kernel) rfl, oa_at 64 (by decide +kernel) rfl, by decide, by decide, by decide +kernel⟩
theorem hV_X5_makeReady : oa_YV yX5_makeReady := ⟨oa_at 738 (by decide +kernel) rfl, oa_at 739 (by decide +kernel) rfl⟩
theorem lk_X6_218 : Cond.methodLink RX6 218 yX5_makeReady ∈ oa_gw := oa_at 737 (by decide +kernel) rfl
theorem hY_X5_openWrongs : oa_Y yX5_openWrongs cX5_openWrongs 1 (some .long) 0 := ⟨oa_at 681 (by decide +kernel) rfl, oa_at 64 (by decide +kernel) rfl, by decide, by decide, by decide +kernel⟩
theorem hV_X5_openWrongs : oa_YV yX5_openWrongs := ⟨oa_at 679 (by decide +kernel) rfl, oa_at 680 (by decide +kernel) rfl⟩
theorem lk_X6_192 : Cond.methodLink RX6 192 yX5_openWrongs ∈ oa_gw := oa_at 678 (by decide +kernel) rfl
theorem fl_X6_30 : oa_F RX6 30 6 4 true (.array .boolean) := ⟨RX6, TX6, 11, tyX6, rfl, by decide, ic_X6, oa_at 276 (by decide +kernel) rfl, tyX6_ok, nmX6, rfl, rfl⟩
theorem fl_X6_26 : oa_F RX6 26 6 3 true (.array (.object "OneAnger$Village")) := ⟨RX6, TX6, 11, tyX6, rfl, by decide, ic_X6, oa_at 275 (by decide +kernel) rfl, tyX6_ok, nmX6, rfl, rfl⟩
theorem fl_X6_179 : oa_F RX6 179 5 6 false .int := ⟨RX5, TX5, 10, tyX5, rfl, by decide, ic_X5, oa_at 127 (by decide +kernel) rfl, tyX5_ok, nmX5, rfl, rfl⟩
theorem fl_X6_36 : oa_F RX6 36 6 5 true (.array (.object "OneAnger$Sheet")) := ⟨RX6, TX6, 11, tyX6, rfl, by decide, ic_X6, oa_at 277 (by decide +kernel) rfl, tyX6_ok, nmX6, rfl, rfl⟩
theorem fl_X6_295 : oa_F RX6 295 3 1 false .int := ⟨RX3, TX3, 3, tyX3, rfl, by decide, ic_X3, oa_at 263 (by decide +kernel) rfl, tyX3_ok, nmX3, rfl, rfl⟩
theorem fl_X6_22 : oa_F RX6 22 6 2 true (.object "OneAnger$Text") := ⟨RX6, TX6, 11, tyX6, rfl, by decide, ic_X6, oa_at 274 (by decide +kernel) rfl, tyX6_ok, nmX6, rfl, rfl⟩
theorem fl_X6_292 : oa_F RX6 292 4 2 false .int := ⟨RX4, TX4, 11, tyX4, rfl, by decide, ic_X4, oa_at 168 (by decide +kernel) rfl, tyX4_ok, nmX4, rfl, rfl⟩
theorem fl_X6_210 : oa_F RX6 210 5 5 false .int := ⟨RX5, TX5, 10, tyX5, rfl, by decide, ic_X5, oa_at 125 (by decide +kernel) rfl, tyX5_ok, nmX5, rfl, rfl⟩
theorem lk_X6_289 : Cond.methodLink RX6 289 yX5_allOf ∈ oa_gw := oa_at 890 (by decide +kernel) rfl
theorem lk_X6_213 : Cond.methodLink RX6 213 yJ6_bitCount_0f7a4 ∈ oa_gw := oa_at 736 (by decide +kernel) rfl
theorem hY_X4_cut : oa_Y yX4_cut cX4_cut 3 (some .int) 1 := ⟨oa_at 321 (by decide +kernel) rfl, oa_at 67 (by decide +kernel) rfl, by decide, by decide, by decide +kernel⟩
theorem hV_X4_cut : oa_YV yX4_cut := ⟨oa_at 319 (by decide +kernel) rfl, oa_at 320 (by decide +kernel) rfl⟩
theorem lk_X6_73 : Cond.methodLink RX6 73 yX4_cut ∈ oa_gw := oa_at 318 (by decide +kernel) rfl
theorem fl_X6_61 : oa_F RX6 61 6 9 false .int := ⟨RX6, TX6, 11, tyX6, rfl, by decide, ic_X6, oa_at 281 (by decide +kernel) rfl, tyX6_ok, nmX6, rfl, rfl⟩
theorem hY_X4_append : oa_Y yX4_append cX4_append 4 (some .int) 1 := ⟨oa_at 313 (by decide +kernel) rfl, oa_at 67 (by decide +kernel) rfl, by decide, by decide, by decide +kernel⟩
theorem hV_X4_append : oa_YV yX4_append := ⟨oa_at 311 (by decide +kernel) rfl, oa_at 312 (by decide +kernel) rfl⟩
theorem lk_X6_69 : Cond.methodLink RX6 69 yX4_append ∈ oa_gw := oa_at 310 (by decide +kernel) rfl
theorem fl_X6_141 : oa_F RX6 141 5 4 true (.array .int) := ⟨RX5, TX5, 10, tyX5, rfl, by decide, ic_X5, oa_at 120 (by decide +kernel) rfl, tyX5_ok, nmX5, rfl, rfl⟩
theorem lk_X6_104 : Cond.methodLink RX6 104 yX5_has ∈ oa_gw := oa_at 507 (by decide +kernel) rfl
theorem cw_X6_144 : Cond.constant RX6 144 (-1000000) ∈ oa_gw := oa_at 560 (by decide +kernel) rfl
theorem fl_X6_100 : oa_F RX6 100 5 0 true (.array .int) := ⟨RX5, TX5, 10, tyX5, rfl, by decide, ic_X5, oa_at 112 (by decide +kernel) rfl, tyX5_ok, nmX5, rfl, rfl⟩
theorem lk_X6_301 : Cond.methodLink RX6 301 yX6_costFor ∈ oa_gw := oa_at 764 (by decide +kernel) rfl
theorem hY_X6_hiredCost : oa_Y yX6_hiredCost cX6_hiredCost 2 (some .int) 1 := ⟨oa_at 763 (by decide +kernel) rfl, oa_at 63 (by decide +kernel) rfl, by decide, by decide, by decide +kernel⟩
theorem hV_X6_hiredCost : oa_YV yX6_hiredCost := ⟨oa_at 762 (by decide +kernel) rfl, oa_at 16 (by decide +kernel) rfl⟩
theorem lk_X6_229 : Cond.methodLink RX6 229 yX6_hiredCost ∈ oa_gw := oa_at 760 (by decide +kernel) rfl
theorem hY_J13_bitCount_95d88 : oa_Y yJ13_bitCount_95d88 cJ13_bitCount_95d88 2 (some .int) 1 := ⟨oa_at 752 (by decide +kernel) rfl, oa_at 79 (by decide +kernel) rfl, by decide, by decide, by decide +kernel⟩
theorem hS_J13_bitCount_95d88 : Cond.static yJ13_bitCount_95d88 ∈ oa_gw := oa_at 751 (by decide +kernel) rfl
theorem lk_X6_225 : Cond.methodLink RX6 225 yJ13_bitCount_95d88 ∈ oa_gw := oa_at 750 (by decide +kernel) rfl
theorem lk_X6_232 : Cond.methodLink RX6 232 yX5_openWrongsGuarded ∈ oa_gw := oa_at 765 (by decide +kernel) rfl
theorem lk_X6_305 : Cond.methodLink RX6 305 yJ9_abs_067f4 ∈ oa_gw := oa_at 824 (by decide +kernel) rfl
theorem hS_J9_abs_067f4 : Cond.static yJ9_abs_067f4 ∈ oa_gw := oa_at 825 (by decide +kernel) rfl
theorem hY_J9_abs_067f4 : oa_Y yJ9_abs_067f4 cJ9_abs_067f4 2 (some .long) 1 := ⟨oa_at 826 (by decide +kernel) rfl, oa_at 78 (by decide +kernel) rfl, by decide, by decide, by decide +kernel⟩
theorem hY_X6_commonDivisor : oa_Y yX6_commonDivisor cX6_commonDivisor 11 (some .long) 2 := ⟨oa_at 829 (by decide +kernel) rfl, oa_at 63 (by decide +kernel) rfl, by decide, by decide, by decide +kernel⟩
theorem hS_X6_commonDivisor : Cond.static yX6_commonDivisor ∈ oa_gw := oa_at 828 (by decide +kernel) rfl
theorem lk_X6_309 : Cond.methodLink RX6 309 yX6_commonDivisor ∈ oa_gw := oa_at 827 (by decide +kernel) rfl
theorem hY_X3_put : oa_Y yX3_put cX3_put 3 (some .int) 2 := ⟨oa_at 863 (by decide +kernel) rfl, oa_at 71 (by decide +kernel) rfl, by decide, by decide, by decide +kernel⟩
theorem hV_X3_put : oa_YV yX3_put := ⟨oa_at 861 (by decide +kernel) rfl, oa_at 862 (by decide +kernel) rfl⟩
theorem lk_X6_274 : Cond.methodLink RX6 274 yX3_put ∈ oa_gw := oa_at 860 (by decide +kernel) rfl
theorem fl_X6_57 : oa_F RX6 57 6 8 true (.object "OneAnger$Chances") := ⟨RX6, TX6, 11, tyX6, rfl, by decide, ic_X6, oa_at 280 (by decide +kernel) rfl, tyX6_ok, nmX6, rfl, rfl⟩
theorem fl_X6_257 : oa_F RX6 257 0 0 true (.array .long) := ⟨RX0, TX0, 2, tyX0, rfl, by decide, ic_X0, oa_at 246 (by decide +kernel) rfl, tyX0_ok, nmX0, rfl, rfl⟩
theorem hY_X0_weigh : oa_Y yX0_weigh cX0_weigh 10 none 2 := ⟨oa_at 807 (by decide +kernel) rfl, oa_at 70 (by decide +kernel) rfl, by decide, by decide, by decide +kernel⟩
theorem hV_X0_weigh : oa_YV yX0_weigh := ⟨oa_at 805 (by decide +kernel) rfl, oa_at 806 (by decide +kernel) rfl⟩
theorem lk_X6_253 : Cond.methodLink RX6 253 yX0_weigh ∈ oa_gw := oa_at 804 (by decide +kernel) rfl
theorem fl_X6_261 : oa_F RX6 261 0 1 false .long := ⟨RX0, TX0, 2, tyX0, rfl, by decide, ic_X0, oa_at 248 (by decide +kernel) rfl, tyX0_ok, nmX0, rfl, rfl⟩
theorem cw_X6_269 : Cond.constantLong RX6 269 (-1000000) ∈ oa_gw := oa_at 834 (by decide +kernel) rfl
theorem lk_X6_158 : Cond.methodLink RX6 158 yX5_able ∈ oa_gw := oa_at 592 (by decide +kernel) rfl
theorem hY_X6_inLowestTerms : oa_Y yX6_inLowestTerms cX6_inLowestTerms 7 (some .long) 3 := ⟨oa_at 823 (by decide +kernel) rfl, oa_at 63 (by decide +kernel) rfl, by decide, by decide, by decide +kernel⟩
theorem hS_X6_inLowestTerms : Cond.static yX6_inLowestTerms ∈ oa_gw := oa_at 822 (by decide +kernel) rfl
theorem lk_X6_265 : Cond.methodLink RX6 265 yX6_inLowestTerms ∈ oa_gw := oa_at 821 (by decide +kernel) rfl
theorem lk_X6_167 : Cond.methodLink RX6 167 yX5_value ∈ oa_gw := oa_at 621 (by decide +kernel) rfl
theorem fl_X6_185 : oa_F RX6 185 5 8 false .int := ⟨RX5, TX5, 10, tyX5, rfl, by decide, ic_X5, oa_at 131 (by decide +kernel) rfl, tyX5_ok, nmX5, rfl, rfl⟩
theorem fl_X6_182 : oa_F RX6 182 5 7 false .int := ⟨RX5, TX5, 10, tyX5, rfl, by decide, ic_X5, oa_at 129 (by decide +kernel) rfl, tyX5_ok, nmX5, rfl, rfl⟩
theorem lk_X6_188 : Cond.methodLink RX6 188 yX5_free ∈ oa_gw := oa_at 677 (by decide +kernel) rfl
theorem hY_X5_allAngers : oa_Y yX5_allAngers cX5_allAngers 3 (some .int) 0 := ⟨oa_at 689 (by decide +kernel) rfl, oa_at 64 (by decide +kernel) rfl, by decide, by decide, by decide +kernel⟩
theorem hV_X5_allAngers : oa_YV yX5_allAngers := ⟨oa_at 687 (by decide +kernel) rfl, oa_at 688 (by decide +kernel) rfl⟩
theorem lk_X6_196 : Cond.methodLink RX6 196 yX5_allAngers ∈ oa_gw := oa_at 686 (by decide +kernel) rfl
theorem lk_X6_131 : Cond.methodLink RX6 131 yX5_hasTwo ∈ oa_gw := oa_at 543 (by decide +kernel) rfl
theorem cw_X6_251 : Cond.constantLong RX6 251 (-1) ∈ oa_gw := oa_at 803 (by decide +kernel) rfl
theorem lk_X6_135 : Cond.methodLink RX6 135 yX5_isAngry ∈ oa_gw := oa_at 548 (by decide +kernel) rfl
theorem lk_X6_138 : Cond.methodLink RX6 138 yX5_ageOf ∈ oa_gw := oa_at 552 (by decide +kernel) rfl
theorem fl_X6_108 : oa_F RX6 108 5 2 true (.array .int) := ⟨RX5, TX5, 10, tyX5, rfl, by decide, ic_X5, oa_at 116 (by decide +kernel) rfl, tyX5_ok, nmX5, rfl, rfl⟩
theorem lk_X6_111 : Cond.methodLink RX6 111 yX5_isFree ∈ oa_gw := oa_at 512 (by decide +kernel) rfl
theorem lk_X6_114 : Cond.methodLink RX6 114 yX5_costOf ∈ oa_gw := oa_at 520 (by decide +kernel) rfl
theorem lk_X6_117 : Cond.methodLink RX6 117 yX5_trait ∈ oa_gw := oa_at 531 (by decide +kernel) rfl
theorem fl_X6_199 : oa_F RX6 199 5 9 false .int := ⟨RX5, TX5, 10, tyX5, rfl, by decide, ic_X5, oa_at 132 (by decide +kernel) rfl, tyX5_ok, nmX5, rfl, rfl⟩
theorem hY_X5_begin : oa_Y yX5_begin cX5_begin 3 (some .int) 2 := ⟨oa_at 568 (by decide +kernel) rfl, oa_at 64 (by decide +kernel) rfl, by decide, by decide, by decide +kernel⟩
theorem hV_X5_begin : oa_YV yX5_begin := ⟨oa_at 566 (by decide +kernel) rfl, oa_at 567 (by decide +kernel) rfl⟩
theorem lk_X6_145 : Cond.methodLink RX6 145 yX5_begin ∈ oa_gw := oa_at 565 (by decide +kernel) rfl
theorem hY_X5_isSafeFor : oa_Y yX5_isSafeFor cX5_isSafeFor 6 (some .boolean) 2 := ⟨oa_at 773 (by decide +kernel) rfl, oa_at 64 (by decide +kernel) rfl, by decide, by decide, by decide +kernel⟩
theorem hV_X5_isSafeFor : oa_YV yX5_isSafeFor := ⟨oa_at 771 (by decide +kernel) rfl, oa_at 772 (by decide +kernel) rfl⟩
theorem lk_X6_236 : Cond.methodLink RX6 236 yX5_isSafeFor ∈ oa_gw := oa_at 770 (by decide +kernel) rfl
theorem fl_X6_286 : oa_F RX6 286 3 0 true (.array .int) := ⟨RX3, TX3, 3, tyX3, rfl, by decide, ic_X3, oa_at 261 (by decide +kernel) rfl, tyX3_ok, nmX3, rfl, rfl⟩
theorem fl_X6_65 : oa_F RX6 65 6 10 false .int := ⟨RX6, TX6, 11, tyX6, rfl, by decide, ic_X6, oa_at 282 (by decide +kernel) rfl, tyX6_ok, nmX6, rfl, rfl⟩
theorem hY_X3_faultAs : oa_Y yX3_faultAs cX3_faultAs 2 (some .int) 1 := ⟨oa_at 879 (by decide +kernel) rfl, oa_at 71 (by decide +kernel) rfl, by decide, by decide, by decide +kernel⟩
theorem hV_X3_faultAs : oa_YV yX3_faultAs := ⟨oa_at 877 (by decide +kernel) rfl, oa_at 878 (by decide +kernel) rfl⟩
theorem lk_X6_277 : Cond.methodLink RX6 277 yX3_faultAs ∈ oa_gw := oa_at 876 (by decide +kernel) rfl
theorem cw_X6_280 : Cond.constantLong RX6 280 2 ∈ oa_gw := oa_at 880 (by decide +kernel) rfl
theorem lk_X6_282 : Cond.methodLink RX6 282 yX3_hasCell ∈ oa_gw := oa_at 881 (by decide +kernel) rfl
theorem lk_X6_148 : Cond.methodLink RX6 148 yX5_canMeet ∈ oa_gw := oa_at 582 (by decide +kernel) rfl
theorem lk_X6_151 : Cond.methodLink RX6 151 yX5_stop ∈ oa_gw := oa_at 583 (by decide +kernel) rfl
theorem lk_X6_155 : Cond.methodLink RX6 155 yX5_angersOf ∈ oa_gw := oa_at 587 (by decide +kernel) rfl
theorem fl_X6_50 : oa_F RX6 50 6 7 true (.object "OneAnger$Rings") := ⟨RX6, TX6, 11, tyX6, rfl, by decide, ic_X6, oa_at 279 (by decide +kernel) rfl, tyX6_ok, nmX6, rfl, rfl⟩
theorem fl_X6_248 : oa_F RX6 248 2 3 false .int := ⟨RX2, TX2, 4, tyX2, rfl, by decide, ic_X2, oa_at 229 (by decide +kernel) rfl, tyX2_ok, nmX2, rfl, rfl⟩
theorem fl_X6_245 : oa_F RX6 245 2 2 false .int := ⟨RX2, TX2, 4, tyX2, rfl, by decide, ic_X2, oa_at 227 (by decide +kernel) rfl, tyX2_ok, nmX2, rfl, rfl⟩
theorem fl_X6_242 : oa_F RX6 242 2 1 false .int := ⟨RX2, TX2, 4, tyX2, rfl, by decide, ic_X2, oa_at 225 (by decide +kernel) rfl, tyX2_ok, nmX2, rfl, rfl⟩
theorem hY_X2_find : oa_Y yX2_find cX2_find 5 none 1 := ⟨oa_at 781 (by decide +kernel) rfl, oa_at 69 (by decide +kernel) rfl, by decide, by decide, by decide +kernel⟩
theorem hV_X2_find : oa_YV yX2_find := ⟨oa_at 779 (by decide +kernel) rfl, oa_at 780 (by decide +kernel) rfl⟩
theorem lk_X6_239 : Cond.methodLink RX6 239 yX2_find ∈ oa_gw := oa_at 778 (by decide +kernel) rfl
theorem gl_X6_121 : Cond.fieldLink RX6 121 "OneAnger" "LEAST" "[I" ∈ oa_gw := oa_at 536 (by decide +kernel) rfl
theorem gl_X6_124 : Cond.fieldLink RX6 124 "OneAnger" "MOST" "[I" ∈ oa_gw := oa_at 537 (by decide +kernel) rfl
theorem lk_X6_127 : Cond.methodLink RX6 127 yX5_putTrait ∈ oa_gw := oa_at 538 (by decide +kernel) rfl
theorem hY_X3_renew : oa_Y yX3_renew cX3_renew 3 none 2 := ⟨oa_at 854 (by decide +kernel) rfl, oa_at 71 (by decide +kernel) rfl, by decide, by decide, by decide +kernel⟩
theorem hV_X3_renew : oa_YV yX3_renew := ⟨oa_at 852 (by decide +kernel) rfl, oa_at 853 (by decide +kernel) rfl⟩
theorem lk_X6_271 : Cond.methodLink RX6 271 yX3_renew ∈ oa_gw := oa_at 851 (by decide +kernel) rfl
theorem cw_X6_209 : Cond.constant RX6 209 100000 ∈ oa_gw := oa_at 723 (by decide +kernel) rfl
theorem fl_X6_80 : oa_F RX6 80 4 3 false .int := ⟨RX4, TX4, 11, tyX4, rfl, by decide, ic_X4, oa_at 170 (by decide +kernel) rfl, tyX4_ok, nmX4, rfl, rfl⟩
theorem fl_X6_83 : oa_F RX6 83 4 4 false .int := ⟨RX4, TX4, 11, tyX4, rfl, by decide, ic_X4, oa_at 171 (by decide +kernel) rfl, tyX4_ok, nmX4, rfl, rfl⟩
theorem fl_X6_86 : oa_F RX6 86 4 1 true (.object "OneAnger$Village") := ⟨RX4, TX4, 11, tyX4, rfl, by decide, ic_X4, oa_at 166 (by decide +kernel) rfl, tyX4_ok, nmX4, rfl, rfl⟩
theorem fl_X6_93 : oa_F RX6 93 4 5 false .int := ⟨RX4, TX4, 11, tyX4, rfl, by decide, ic_X4, oa_at 174 (by decide +kernel) rfl, tyX4_ok, nmX4, rfl, rfl⟩
theorem hY_X4_tell : oa_Y yX4_tell cX4_tell 4 none 0 := ⟨oa_at 332 (by decide +kernel) rfl, oa_at 67 (by decide +kernel) rfl, by decide, by decide, by decide +kernel⟩
theorem hV_X4_tell : oa_YV yX4_tell := ⟨oa_at 330 (by decide +kernel) rfl, oa_at 331 (by decide +kernel) rfl⟩
theorem lk_X6_77 : Cond.methodLink RX6 77 yX4_tell ∈ oa_gw := oa_at 329 (by decide +kernel) rfl
theorem lk_X6_164 : Cond.methodLink RX6 164 yX5_ableAsSeen ∈ oa_gw := oa_at 612 (by decide +kernel) rfl
theorem lk_X6_170 : Cond.methodLink RX6 170 yX5_choice ∈ oa_gw := oa_at 630 (by decide +kernel) rfl
theorem lk_X6_161 : Cond.methodLink RX6 161 yX5_minders ∈ oa_gw := oa_at 600 (by decide +kernel) rfl
theorem lk_X6_173 : Cond.methodLink RX6 173 yX5_doWrong ∈ oa_gw := oa_at 639 (by decide +kernel) rfl
theorem ic_X7 : ∀ w ∈ u_ws RX7 TX7 27, w ∈ oa_gw := by decide +kernel
theorem fl_X7_7 : oa_F RX7 7 7 0 true (.array .int) := ⟨RX7, TX7, 27, tyX7, rfl, by decide, ic_X7, oa_at 897 (by decide +kernel) rfl, tyX7_ok, nmX7, rfl, rfl⟩
theorem hY_X7_age : oa_Y yX7_age cX7_age 4 (some .int) 3 := ⟨oa_at 1065 (by decide +kernel) rfl, oa_at 72 (by decide +kernel) rfl, by decide, by decide, by decide +kernel⟩
theorem hV_X7_age : oa_YV yX7_age := ⟨oa_at 1064 (by decide +kernel) rfl, oa_at 32 (by decide +kernel) rfl⟩
theorem lk_X7_141 : Cond.methodLink RX7 141 yX7_age ∈ oa_gw := oa_at 1062 (by decide +kernel) rfl
theorem fl_X7_13 : oa_F RX7 13 7 1 true (.array .int) := ⟨RX7, TX7, 27, tyX7, rfl, by decide, ic_X7, oa_at 898 (by decide +kernel) rfl, tyX7_ok, nmX7, rfl, rfl⟩
theorem hY_X7_angers : oa_Y yX7_angers cX7_angers 5 (some .int) 2 := ⟨oa_at 1073 (by decide +kernel) rfl, oa_at 72 (by decide +kernel) rfl, by decide, by decide, by decide +kernel⟩
theorem hV_X7_angers : oa_YV yX7_angers := ⟨oa_at 1072 (by decide +kernel) rfl, oa_at 34 (by decide +kernel) rfl⟩
theorem lk_X7_145 : Cond.methodLink RX7 145 yX7_angers ∈ oa_gw := oa_at 1070 (by decide +kernel) rfl
theorem hY_X7_many : oa_Y yX7_many cX7_many 1 (some .int) 0 := ⟨oa_at 1057 (by decide +kernel) rfl, oa_at 72 (by decide +kernel) rfl, by decide, by decide, by decide +kernel⟩
theorem hV_X7_many : oa_YV yX7_many := ⟨oa_at 1056 (by decide +kernel) rfl, oa_at 30 (by decide +kernel) rfl⟩
theorem lk_X7_134 : Cond.methodLink RX7 134 yX7_many ∈ oa_gw := oa_at 1054 (by decide +kernel) rfl
theorem hY_X7_isFree : oa_Y yX7_isFree cX7_isFree 3 (some .boolean) 2 := ⟨oa_at 1069 (by decide +kernel) rfl, oa_at 72 (by decide +kernel) rfl, by decide, by decide, by decide +kernel⟩
theorem hV_X7_isFree : oa_YV yX7_isFree := ⟨oa_at 1068 (by decide +kernel) rfl, oa_at 33 (by decide +kernel) rfl⟩
theorem lk_X7_154 : Cond.methodLink RX7 154 yX7_isFree ∈ oa_gw := oa_at 1066 (by decide +kernel) rfl
theorem hY_X7_freeOnes : oa_Y yX7_freeOnes cX7_freeOnes 4 (some .int) 1 := ⟨oa_at 1144 (by decide +kernel) rfl, oa_at 72 (by decide +kernel) rfl, by decide, by decide, by decide +kernel⟩
theorem hV_X7_freeOnes : oa_YV yX7_freeOnes := ⟨oa_at 1143 (by decide +kernel) rfl, oa_at 43 (by decide +kernel) rfl⟩
theorem lk_X7_187 : Cond.methodLink RX7 187 yX7_freeOnes ∈ oa_gw := oa_at 1141 (by decide +kernel) rfl
theorem hY_X7_lesser : oa_Y yX7_lesser cX7_lesser 2 (some .int) 2 := ⟨oa_at 1080 (by decide +kernel) rfl, oa_at 72 (by decide +kernel) rfl, by decide, by decide, by decide +kernel⟩
theorem hS_X7_lesser : Cond.static yX7_lesser ∈ oa_gw := oa_at 1079 (by decide +kernel) rfl
theorem lk_X7_148 : Cond.methodLink RX7 148 yX7_lesser ∈ oa_gw := oa_at 1078 (by decide +kernel) rfl
theorem hY_X7_minds : oa_Y yX7_minds cX7_minds 7 (some .boolean) 4 := ⟨oa_at 1132 (by decide +kernel) rfl, oa_at 72 (by decide +kernel) rfl, by decide, by decide, by decide +kernel⟩
theorem hV_X7_minds : oa_YV yX7_minds := ⟨oa_at 1131 (by decide +kernel) rfl, oa_at 41 (by decide +kernel) rfl⟩
theorem lk_X7_180 : Cond.methodLink RX7 180 yX7_minds ∈ oa_gw := oa_at 1129 (by decide +kernel) rfl
theorem hY_X7_cost : oa_Y yX7_cost cX7_cost 4 (some .int) 2 := ⟨oa_at 1077 (by decide +kernel) rfl, oa_at 72 (by decide +kernel) rfl, by decide, by decide, by decide +kernel⟩
theorem hV_X7_cost : oa_YV yX7_cost := ⟨oa_at 1076 (by decide +kernel) rfl, oa_at 35 (by decide +kernel) rfl⟩
theorem lk_X7_158 : Cond.methodLink RX7 158 yX7_cost ∈ oa_gw := oa_at 1074 (by decide +kernel) rfl
theorem hY_X7_worthBy : oa_Y yX7_worthBy cX7_worthBy 7 (some .int) 4 := ⟨oa_at 1148 (by decide +kernel) rfl, oa_at 72 (by decide +kernel) rfl, by decide, by decide, by decide +kernel⟩
theorem hV_X7_worthBy : oa_YV yX7_worthBy := ⟨oa_at 1147 (by decide +kernel) rfl, oa_at 44 (by decide +kernel) rfl⟩
theorem lk_X7_193 : Cond.methodLink RX7 193 yX7_worthBy ∈ oa_gw := oa_at 1145 (by decide +kernel) rfl
theorem hY_X7_wouldOf : oa_Y yX7_wouldOf cX7_wouldOf 6 (some .int) 3 := ⟨oa_at 1128 (by decide +kernel) rfl, oa_at 72 (by decide +kernel) rfl, by decide, by decide, by decide +kernel⟩
theorem hV_X7_wouldOf : oa_YV yX7_wouldOf := ⟨oa_at 1127 (by decide +kernel) rfl, oa_at 40 (by decide +kernel) rfl⟩
theorem lk_X7_184 : Cond.methodLink RX7 184 yX7_wouldOf ∈ oa_gw := oa_at 1125 (by decide +kernel) rfl
theorem fl_X7_204 : oa_F RX7 204 7 16 false .int := ⟨RX7, TX7, 27, tyX7, rfl, by decide, ic_X7, oa_at 913 (by decide +kernel) rfl, tyX7_ok, nmX7, rfl, rfl⟩
theorem hY_X7_seenFree : oa_Y yX7_seenFree cX7_seenFree 4 (some .int) 1 := ⟨oa_at 1140 (by decide +kernel) rfl, oa_at 72 (by decide +kernel) rfl, by decide, by decide, by decide +kernel⟩
theorem hV_X7_seenFree : oa_YV yX7_seenFree := ⟨oa_at 1139 (by decide +kernel) rfl, oa_at 42 (by decide +kernel) rfl⟩
theorem lk_X7_190 : Cond.methodLink RX7 190 yX7_seenFree ∈ oa_gw := oa_at 1137 (by decide +kernel) rfl
theorem hY_X7_chosen : oa_Y yX7_chosen cX7_chosen 8 (some .int) 3 := ⟨oa_at 1156 (by decide +kernel) rfl, oa_at 72 (by decide +kernel) rfl, by decide, by decide, by decide +kernel⟩
theorem hV_X7_chosen : oa_YV yX7_chosen := ⟨oa_at 1155 (by decide +kernel) rfl, oa_at 45 (by decide +kernel) rfl⟩
theorem lk_X7_197 : Cond.methodLink RX7 197 yX7_chosen ∈ oa_gw := oa_at 1153 (by decide +kernel) rfl
theorem hY_X7_wrongs : oa_Y yX7_wrongs cX7_wrongs 6 none 3 := ⟨oa_at 1164 (by decide +kernel) rfl, oa_at 72 (by decide +kernel) rfl, by decide, by decide, by decide +kernel⟩
theorem hV_X7_wrongs : oa_YV yX7_wrongs := ⟨oa_at 1163 (by decide +kernel) rfl, oa_at 46 (by decide +kernel) rfl⟩
theorem lk_X7_200 : Cond.methodLink RX7 200 yX7_wrongs ∈ oa_gw := oa_at 1161 (by decide +kernel) rfl
theorem hY_X7_makesUp : oa_Y yX7_makesUp cX7_makesUp 8 none 1 := ⟨oa_at 1177 (by decide +kernel) rfl, oa_at 72 (by decide +kernel) rfl, by decide, by decide, by decide +kernel⟩
theorem hV_X7_makesUp : oa_YV yX7_makesUp := ⟨oa_at 1176 (by decide +kernel) rfl, oa_at 48 (by decide +kernel) rfl⟩
theorem lk_X7_207 : Cond.methodLink RX7 207 yX7_makesUp ∈ oa_gw := oa_at 1174 (by decide +kernel) rfl
theorem hY_X7_copies : oa_Y yX7_copies cX7_copies 4 none 2 := ⟨oa_at 1198 (by decide +kernel) rfl, oa_at 72 (by decide +kernel) rfl, by decide, by decide, by decide +kernel⟩
theorem hV_X7_copies : oa_YV yX7_copies := ⟨oa_at 1197 (by decide +kernel) rfl, oa_at 51 (by decide +kernel) rfl⟩
theorem lk_X7_218 : Cond.methodLink RX7 218 yX7_copies ∈ oa_gw := oa_at 1195 (by decide +kernel) rfl
theorem hY_X7_week : oa_Y yX7_week cX7_week 4 none 1 := ⟨oa_at 1173 (by decide +kernel) rfl, oa_at 72 (by decide +kernel) rfl, by decide, by decide, by decide +kernel⟩
theorem hV_X7_week : oa_YV yX7_week := ⟨oa_at 1172 (by decide +kernel) rfl, oa_at 47 (by decide +kernel) rfl⟩
theorem lk_X7_212 : Cond.methodLink RX7 212 yX7_week ∈ oa_gw := oa_at 1170 (by decide +kernel) rfl
theorem fl_X7_31 : oa_F RX7 31 7 17 true (.array .int) := ⟨RX7, TX7, 27, tyX7, rfl, by decide, ic_X7, oa_at 914 (by decide +kernel) rfl, tyX7_ok, nmX7, rfl, rfl⟩
theorem hY_X7_in : oa_Y yX7_in cX7_in 6 (some .boolean) 3 := ⟨oa_at 989 (by decide +kernel) rfl, oa_at 72 (by decide +kernel) rfl, by decide, by decide, by decide +kernel⟩
theorem hS_X7_in : Cond.static yX7_in ∈ oa_gw := oa_at 988 (by decide +kernel) rfl
theorem lk_X7_58 : Cond.methodLink RX7 58 yX7_in ∈ oa_gw := oa_at 987 (by decide +kernel) rfl
theorem hY_X7_tries : oa_Y yX7_tries cX7_tries 3 none 1 := ⟨oa_at 1194 (by decide +kernel) rfl, oa_at 72 (by decide +kernel) rfl, by decide, by decide, by decide +kernel⟩
theorem hV_X7_tries : oa_YV yX7_tries := ⟨oa_at 1193 (by decide +kernel) rfl, oa_at 50 (by decide +kernel) rfl⟩
theorem lk_X7_223 : Cond.methodLink RX7 223 yX7_tries ∈ oa_gw := oa_at 1191 (by decide +kernel) rfl
theorem hY_X7_notes : oa_Y yX7_notes cX7_notes 4 none 2 := ⟨oa_at 1210 (by decide +kernel) rfl, oa_at 72 (by decide +kernel) rfl, by decide, by decide, by decide +kernel⟩
theorem hV_X7_notes : oa_YV yX7_notes := ⟨oa_at 1209 (by decide +kernel) rfl, oa_at 52 (by decide +kernel) rfl⟩
theorem lk_X7_226 : Cond.methodLink RX7 226 yX7_notes ∈ oa_gw := oa_at 1207 (by decide +kernel) rfl
theorem hY_X7_isSame : oa_Y yX7_isSame cX7_isSame 5 (some .boolean) 2 := ⟨oa_at 1214 (by decide +kernel) rfl, oa_at 72 (by decide +kernel) rfl, by decide, by decide, by decide +kernel⟩
theorem hV_X7_isSame : oa_YV yX7_isSame := ⟨oa_at 1213 (by decide +kernel) rfl, oa_at 53 (by decide +kernel) rfl⟩
theorem lk_X7_229 : Cond.methodLink RX7 229 yX7_isSame ∈ oa_gw := oa_at 1211 (by decide +kernel) rfl
theorem hY_X7_layCalm : oa_Y yX7_layCalm cX7_layCalm 2 none 0 := ⟨oa_at 1235 (by decide +kernel) rfl, oa_at 72 (by decide +kernel) rfl, by decide, by decide, by decide +kernel⟩
theorem hV_X7_layCalm : oa_YV yX7_layCalm := ⟨oa_at 1234 (by decide +kernel) rfl, oa_at 54 (by decide +kernel) rfl⟩
theorem lk_X7_236 : Cond.methodLink RX7 236 yX7_layCalm ∈ oa_gw := oa_at 1232 (by decide +kernel) rfl
theorem hY_X7_feigns : oa_Y yX7_feigns cX7_feigns 3 (some .int) 0 := ⟨oa_at 1243 (by decide +kernel) rfl, oa_at 72 (by decide +kernel) rfl, by decide, by decide, by decide +kernel⟩
theorem hV_X7_feigns : oa_YV yX7_feigns := ⟨oa_at 1242 (by decide +kernel) rfl, oa_at 56 (by decide +kernel) rfl⟩
theorem lk_X7_233 : Cond.methodLink RX7 233 yX7_feigns ∈ oa_gw := oa_at 1240 (by decide +kernel) rfl
theorem fl_X7_42 : oa_F RX7 42 7 22 true (.array .boolean) := ⟨RX7, TX7, 27, tyX7, rfl, by decide, ic_X7, oa_at 919 (by decide +kernel) rfl, tyX7_ok, nmX7, rfl, rfl⟩
theorem fl_X7_54 : oa_F RX7 54 7 5 false .int := ⟨RX7, TX7, 27, tyX7, rfl, by decide, ic_X7, oa_at 902 (by decide +kernel) rfl, tyX7_ok, nmX7, rfl, rfl⟩
theorem fl_X7_22 : oa_F RX7 22 7 4 true (.array .int) := ⟨RX7, TX7, 27, tyX7, rfl, by decide, ic_X7, oa_at 901 (by decide +kernel) rfl, tyX7_ok, nmX7, rfl, rfl⟩
theorem fl_X7_45 : oa_F RX7 45 7 23 true (.array .int) := ⟨RX7, TX7, 27, tyX7, rfl, by decide, ic_X7, oa_at 920 (by decide +kernel) rfl, tyX7_ok, nmX7, rfl, rfl⟩
theorem fl_X7_48 : oa_F RX7 48 7 24 true (.array .int) := ⟨RX7, TX7, 27, tyX7, rfl, by decide, ic_X7, oa_at 921 (by decide +kernel) rfl, tyX7_ok, nmX7, rfl, rfl⟩
theorem fl_X7_62 : oa_F RX7 62 7 7 false .int := ⟨RX7, TX7, 27, tyX7, rfl, by decide, ic_X7, oa_at 904 (by decide +kernel) rfl, tyX7_ok, nmX7, rfl, rfl⟩
theorem fl_X7_65 : oa_F RX7 65 7 10 false .int := ⟨RX7, TX7, 27, tyX7, rfl, by decide, ic_X7, oa_at 907 (by decide +kernel) rfl, tyX7_ok, nmX7, rfl, rfl⟩
theorem fl_X7_68 : oa_F RX7 68 7 8 false .int := ⟨RX7, TX7, 27, tyX7, rfl, by decide, ic_X7, oa_at 905 (by decide +kernel) rfl, tyX7_ok, nmX7, rfl, rfl⟩
theorem fl_X7_129 : oa_F RX7 129 7 6 false .int := ⟨RX7, TX7, 27, tyX7, rfl, by decide, ic_X7, oa_at 903 (by decide +kernel) rfl, tyX7_ok, nmX7, rfl, rfl⟩
theorem hY_X7_bitsOf : oa_Y yX7_bitsOf cX7_bitsOf 3 (some .int) 1 := ⟨oa_at 1246 (by decide +kernel) rfl, oa_at 72 (by decide +kernel) rfl, by decide, by decide, by decide +kernel⟩
theorem hS_X7_bitsOf : Cond.static yX7_bitsOf ∈ oa_gw := oa_at 1245 (by decide +kernel) rfl
theorem lk_X7_242 : Cond.methodLink RX7 242 yX7_bitsOf ∈ oa_gw := oa_at 1244 (by decide +kernel) rfl
theorem hY_X7_isSafeBy : oa_Y yX7_isSafeBy cX7_isSafeBy 5 (some .boolean) 1 := ⟨oa_at 1239 (by decide +kernel) rfl, oa_at 72 (by decide +kernel) rfl, by decide, by decide, by decide +kernel⟩
theorem hV_X7_isSafeBy : oa_YV yX7_isSafeBy := ⟨oa_at 1238 (by decide +kernel) rfl, oa_at 55 (by decide +kernel) rfl⟩
theorem lk_X7_239 : Cond.methodLink RX7 239 yX7_isSafeBy ∈ oa_gw := oa_at 1236 (by decide +kernel) rfl
theorem cw_X7_210 : Cond.constantLong RX7 210 99 ∈ oa_gw := oa_at 1169 (by decide +kernel) rfl
theorem hY_X7_isOne : oa_Y yX7_isOne cX7_isOne 2 (some .boolean) 1 := ⟨oa_at 1053 (by decide +kernel) rfl, oa_at 72 (by decide +kernel) rfl, by decide, by decide, by decide +kernel⟩
theorem hV_X7_isOne : oa_YV yX7_isOne := ⟨oa_at 1052 (by decide +kernel) rfl, oa_at 29 (by decide +kernel) rfl⟩
theorem lk_X7_137 : Cond.methodLink RX7 137 yX7_isOne ∈ oa_gw := oa_at 1050 (by decide +kernel) rfl
theorem cw_X7_170 : Cond.constant RX7 170 (-1000000) ∈ oa_gw := oa_at 1100 (by decide +kernel) rfl
theorem hY_X7_hiredCost : oa_Y yX7_hiredCost cX7_hiredCost 2 (some .int) 1 := ⟨oa_at 1266 (by decide +kernel) rfl, oa_at 72 (by decide +kernel) rfl, by decide, by decide, by decide +kernel⟩
theorem hV_X7_hiredCost : oa_YV yX7_hiredCost := ⟨oa_at 1265 (by decide +kernel) rfl, oa_at 58 (by decide +kernel) rfl⟩
theorem lk_X7_245 : Cond.methodLink RX7 245 yX7_hiredCost ∈ oa_gw := oa_at 1263 (by decide +kernel) rfl
theorem hY_X7_openCount : oa_Y yX7_openCount cX7_openCount 6 (some .int) 1 := ⟨oa_at 1185 (by decide +kernel) rfl, oa_at 72 (by decide +kernel) rfl, by decide, by decide, by decide +kernel⟩
theorem hV_X7_openCount : oa_YV yX7_openCount := ⟨oa_at 1184 (by decide +kernel) rfl, oa_at 49 (by decide +kernel) rfl⟩
theorem lk_X7_215 : Cond.methodLink RX7 215 yX7_openCount ∈ oa_gw := oa_at 1182 (by decide +kernel) rfl
theorem hY_X7_openWith : oa_Y yX7_openWith cX7_openWith 9 (some .int) 3 := ⟨oa_at 1262 (by decide +kernel) rfl, oa_at 72 (by decide +kernel) rfl, by decide, by decide, by decide +kernel⟩
theorem hV_X7_openWith : oa_YV yX7_openWith := ⟨oa_at 1261 (by decide +kernel) rfl, oa_at 57 (by decide +kernel) rfl⟩
theorem lk_X7_248 : Cond.methodLink RX7 248 yX7_openWith ∈ oa_gw := oa_at 1259 (by decide +kernel) rfl
theorem fl_X7_34 : oa_F RX7 34 7 18 true (.array .boolean) := ⟨RX7, TX7, 27, tyX7, rfl, by decide, ic_X7, oa_at 915 (by decide +kernel) rfl, tyX7_ok, nmX7, rfl, rfl⟩
theorem hY_X7_leastOf : oa_Y yX7_leastOf cX7_leastOf 2 (some .int) 1 := ⟨oa_at 1281 (by decide +kernel) rfl, oa_at 72 (by decide +kernel) rfl, by decide, by decide, by decide +kernel⟩
theorem hS_X7_leastOf : Cond.static yX7_leastOf ∈ oa_gw := oa_at 1280 (by decide +kernel) rfl
theorem lk_X7_252 : Cond.methodLink RX7 252 yX7_leastOf ∈ oa_gw := oa_at 1279 (by decide +kernel) rfl
theorem fl_X7_51 : oa_F RX7 51 7 25 true (.array .int) := ⟨RX7, TX7, 27, tyX7, rfl, by decide, ic_X7, oa_at 922 (by decide +kernel) rfl, tyX7_ok, nmX7, rfl, rfl⟩
theorem cw_X7_115 : Cond.constantLong RX7 115 3 ∈ oa_gw := oa_at 1018 (by decide +kernel) rfl
theorem fl_X7_261 : oa_F RX7 261 7 20 false .long := ⟨RX7, TX7, 27, tyX7, rfl, by decide, ic_X7, oa_at 917 (by decide +kernel) rfl, tyX7_ok, nmX7, rfl, rfl⟩
theorem fl_X7_265 : oa_F RX7 265 7 21 false .long := ⟨RX7, TX7, 27, tyX7, rfl, by decide, ic_X7, oa_at 918 (by decide +kernel) rfl, tyX7_ok, nmX7, rfl, rfl⟩
theorem fl_X7_38 : oa_F RX7 38 7 19 true (.array .long) := ⟨RX7, TX7, 27, tyX7, rfl, by decide, ic_X7, oa_at 916 (by decide +kernel) rfl, tyX7_ok, nmX7, rfl, rfl⟩
theorem cw_X7_221 : Cond.constantLong RX7 221 10 ∈ oa_gw := oa_at 1190 (by decide +kernel) rfl
theorem hY_X7_layChances : oa_Y yX7_layChances cX7_layChances 9 none 1 := ⟨oa_at 1294 (by decide +kernel) rfl, oa_at 72 (by decide +kernel) rfl, by decide, by decide, by decide +kernel⟩
theorem hV_X7_layChances : oa_YV yX7_layChances := ⟨oa_at 1293 (by decide +kernel) rfl, oa_at 61 (by decide +kernel) rfl⟩
theorem lk_X7_270 : Cond.methodLink RX7 270 yX7_layChances ∈ oa_gw := oa_at 1291 (by decide +kernel) rfl
theorem fl_X7_19 : oa_F RX7 19 7 3 true (.array .int) := ⟨RX7, TX7, 27, tyX7, rfl, by decide, ic_X7, oa_at 900 (by decide +kernel) rfl, tyX7_ok, nmX7, rfl, rfl⟩
theorem fl_X7_16 : oa_F RX7 16 7 2 true (.array .int) := ⟨RX7, TX7, 27, tyX7, rfl, by decide, ic_X7, oa_at 899 (by decide +kernel) rfl, tyX7_ok, nmX7, rfl, rfl⟩
theorem hY_X7_fails : oa_Y yX7_fails cX7_fails 2 none 1 := ⟨oa_at 1009 (by decide +kernel) rfl, oa_at 72 (by decide +kernel) rfl, by decide, by decide, by decide +kernel⟩
theorem hV_X7_fails : oa_YV yX7_fails := ⟨oa_at 1008 (by decide +kernel) rfl, oa_at 22 (by decide +kernel) rfl⟩
theorem lk_X7_92 : Cond.methodLink RX7 92 yX7_fails ∈ oa_gw := oa_at 1006 (by decide +kernel) rfl
theorem cw_X7_277 : Cond.constantLong RX7 277 (-1000000) ∈ oa_gw := oa_at 1302 (by decide +kernel) rfl
theorem hY_X7_lowest : oa_Y yX7_lowest cX7_lowest 11 (some .long) 3 := ⟨oa_at 1297 (by decide +kernel) rfl, oa_at 72 (by decide +kernel) rfl, by decide, by decide, by decide +kernel⟩
theorem hS_X7_lowest : Cond.static yX7_lowest ∈ oa_gw := oa_at 1296 (by decide +kernel) rfl
theorem lk_X7_273 : Cond.methodLink RX7 273 yX7_lowest ∈ oa_gw := oa_at 1295 (by decide +kernel) rfl
theorem fl_X7_71 : oa_F RX7 71 7 11 false .int := ⟨RX7, TX7, 27, tyX7, rfl, by decide, ic_X7, oa_at 908 (by decide +kernel) rfl, tyX7_ok, nmX7, rfl, rfl⟩
theorem fl_X7_74 : oa_F RX7 74 7 9 false .int := ⟨RX7, TX7, 27, tyX7, rfl, by decide, ic_X7, oa_at 906 (by decide +kernel) rfl, tyX7_ok, nmX7, rfl, rfl⟩
theorem fl_X7_25 : oa_F RX7 25 7 13 true (.array .int) := ⟨RX7, TX7, 27, tyX7, rfl, by decide, ic_X7, oa_at 910 (by decide +kernel) rfl, tyX7_ok, nmX7, rfl, rfl⟩
theorem fl_X7_28 : oa_F RX7 28 7 14 true (.array .int) := ⟨RX7, TX7, 27, tyX7, rfl, by decide, ic_X7, oa_at 911 (by decide +kernel) rfl, tyX7_ok, nmX7, rfl, rfl⟩
theorem hY_X7_byteAt : oa_Y yX7_byteAt cX7_byteAt 2 (some .int) 1 := ⟨oa_at 1001 (by decide +kernel) rfl, oa_at 72 (by decide +kernel) rfl, by decide, by decide, by decide +kernel⟩
theorem hV_X7_byteAt : oa_YV yX7_byteAt := ⟨oa_at 1000 (by decide +kernel) rfl, oa_at 21 (by decide +kernel) rfl⟩
theorem lk_X7_77 : Cond.methodLink RX7 77 yX7_byteAt ∈ oa_gw := oa_at 998 (by decide +kernel) rfl
theorem fl_X7_81 : oa_F RX7 81 7 12 false .int := ⟨RX7, TX7, 27, tyX7, rfl, by decide, ic_X7, oa_at 909 (by decide +kernel) rfl, tyX7_ok, nmX7, rfl, rfl⟩
theorem cw_X7_84 : Cond.constantLong RX7 84 97 ∈ oa_gw := oa_at 1002 (by decide +kernel) rfl
theorem cw_X7_86 : Cond.constantLong RX7 86 122 ∈ oa_gw := oa_at 1003 (by decide +kernel) rfl
theorem cw_X7_88 : Cond.constantLong RX7 88 48 ∈ oa_gw := oa_at 1004 (by decide +kernel) rfl
theorem cw_X7_90 : Cond.constantLong RX7 90 57 ∈ oa_gw := oa_at 1005 (by decide +kernel) rfl
theorem hY_X7_step : oa_Y yX7_step cX7_step 2 none 0 := ⟨oa_at 997 (by decide +kernel) rfl, oa_at 72 (by decide +kernel) rfl, by decide, by decide, by decide +kernel⟩
theorem hV_X7_step : oa_YV yX7_step := ⟨oa_at 996 (by decide +kernel) rfl, oa_at 20 (by decide +kernel) rfl⟩
theorem lk_X7_96 : Cond.methodLink RX7 96 yX7_step ∈ oa_gw := oa_at 994 (by decide +kernel) rfl
theorem hY_X7_isWrong : oa_Y yX7_isWrong cX7_isWrong 3 (some .boolean) 2 := ⟨oa_at 1095 (by decide +kernel) rfl, oa_at 72 (by decide +kernel) rfl, by decide, by decide, by decide +kernel⟩
theorem hV_X7_isWrong : oa_YV yX7_isWrong := ⟨oa_at 1094 (by decide +kernel) rfl, oa_at 36 (by decide +kernel) rfl⟩
theorem lk_X7_167 : Cond.methodLink RX7 167 yX7_isWrong ∈ oa_gw := oa_at 1092 (by decide +kernel) rfl
theorem cw_X7_268 : Cond.constantLong RX7 268 (-1) ∈ oa_gw := oa_at 1290 (by decide +kernel) rfl
theorem hY_X7_angerBits : oa_Y yX7_angerBits cX7_angerBits 4 (some .int) 1 := ⟨oa_at 1061 (by decide +kernel) rfl, oa_at 72 (by decide +kernel) rfl, by decide, by decide, by decide +kernel⟩
theorem hV_X7_angerBits : oa_YV yX7_angerBits := ⟨oa_at 1060 (by decide +kernel) rfl, oa_at 31 (by decide +kernel) rfl⟩
theorem lk_X7_151 : Cond.methodLink RX7 151 yX7_angerBits ∈ oa_gw := oa_at 1058 (by decide +kernel) rfl
theorem cw_X7_161 : Cond.constantLong RX7 161 7 ∈ oa_gw := oa_at 1081 (by decide +kernel) rfl
theorem hY_X7_isWhom : oa_Y yX7_isWhom cX7_isWhom 3 (some .boolean) 2 := ⟨oa_at 1112 (by decide +kernel) rfl, oa_at 72 (by decide +kernel) rfl, by decide, by decide, by decide +kernel⟩
theorem hV_X7_isWhom : oa_YV yX7_isWhom := ⟨oa_at 1111 (by decide +kernel) rfl, oa_at 38 (by decide +kernel) rfl⟩
theorem lk_X7_171 : Cond.methodLink RX7 171 yX7_isWhom ∈ oa_gw := oa_at 1109 (by decide +kernel) rfl
theorem hY_X7_pointing : oa_Y yX7_pointing cX7_pointing 3 (some .int) 2 := ⟨oa_at 1108 (by decide +kernel) rfl, oa_at 72 (by decide +kernel) rfl, by decide, by decide, by decide +kernel⟩
theorem hV_X7_pointing : oa_YV yX7_pointing := ⟨oa_at 1107 (by decide +kernel) rfl, oa_at 37 (by decide +kernel) rfl⟩
theorem lk_X7_174 : Cond.methodLink RX7 174 yX7_pointing ∈ oa_gw := oa_at 1105 (by decide +kernel) rfl
theorem fl_X7_281 : oa_F RX7 281 7 26 false .int := ⟨RX7, TX7, 27, tyX7, rfl, by decide, ic_X7, oa_at 923 (by decide +kernel) rfl, tyX7_ok, nmX7, rfl, rfl⟩
theorem cw_X7_132 : Cond.constantLong RX7 132 2 ∈ oa_gw := oa_at 1045 (by decide +kernel) rfl
theorem cw_X7_279 : Cond.constantLong RX7 279 12 ∈ oa_gw := oa_at 1327 (by decide +kernel) rfl
theorem hY_X7_resting : oa_Y yX7_resting cX7_resting 3 (some .int) 2 := ⟨oa_at 1120 (by decide +kernel) rfl, oa_at 72 (by decide +kernel) rfl, by decide, by decide, by decide +kernel⟩
theorem hV_X7_resting : oa_YV yX7_resting := ⟨oa_at 1119 (by decide +kernel) rfl, oa_at 39 (by decide +kernel) rfl⟩
theorem lk_X7_177 : Cond.methodLink RX7 177 yX7_resting ∈ oa_gw := oa_at 1117 (by decide +kernel) rfl
theorem hY_X7_number : oa_Y yX7_number cX7_number 4 (some .int) 2 := ⟨oa_at 1028 (by decide +kernel) rfl, oa_at 72 (by decide +kernel) rfl, by decide, by decide, by decide +kernel⟩
theorem hV_X7_number : oa_YV yX7_number := ⟨oa_at 1027 (by decide +kernel) rfl, oa_at 26 (by decide +kernel) rfl⟩
theorem lk_X7_99 : Cond.methodLink RX7 99 yX7_number ∈ oa_gw := oa_at 1025 (by decide +kernel) rfl
theorem hY_X7_nameHere : oa_Y yX7_nameHere cX7_nameHere 4 (some .int) 0 := ⟨oa_at 1017 (by decide +kernel) rfl, oa_at 72 (by decide +kernel) rfl, by decide, by decide, by decide +kernel⟩
theorem hV_X7_nameHere : oa_YV yX7_nameHere := ⟨oa_at 1016 (by decide +kernel) rfl, oa_at 24 (by decide +kernel) rfl⟩
theorem lk_X7_103 : Cond.methodLink RX7 103 yX7_nameHere ∈ oa_gw := oa_at 1014 (by decide +kernel) rfl
theorem cw_X7_107 : Cond.constantLong RX7 107 4 ∈ oa_gw := oa_at 1023 (by decide +kernel) rfl
theorem cw_X7_109 : Cond.constantLong RX7 109 8 ∈ oa_gw := oa_at 1024 (by decide +kernel) rfl
theorem hY_X7_readWith : oa_Y yX7_readWith cX7_readWith 4 none 2 := ⟨oa_at 1032 (by decide +kernel) rfl, oa_at 72 (by decide +kernel) rfl, by decide, by decide, by decide +kernel⟩
theorem hV_X7_readWith : oa_YV yX7_readWith := ⟨oa_at 1031 (by decide +kernel) rfl, oa_at 27 (by decide +kernel) rfl⟩
theorem lk_X7_111 : Cond.methodLink RX7 111 yX7_readWith ∈ oa_gw := oa_at 1029 (by decide +kernel) rfl
theorem fl_X7_120 : oa_F RX7 120 7 15 false .int := ⟨RX7, TX7, 27, tyX7, rfl, by decide, ic_X7, oa_at 912 (by decide +kernel) rfl, tyX7_ok, nmX7, rfl, rfl⟩
theorem hY_X7_readOne : oa_Y yX7_readOne cX7_readOne 5 none 0 := ⟨oa_at 1022 (by decide +kernel) rfl, oa_at 72 (by decide +kernel) rfl, by decide, by decide, by decide +kernel⟩
theorem hV_X7_readOne : oa_YV yX7_readOne := ⟨oa_at 1021 (by decide +kernel) rfl, oa_at 25 (by decide +kernel) rfl⟩
theorem lk_X7_117 : Cond.methodLink RX7 117 yX7_readOne ∈ oa_gw := oa_at 1019 (by decide +kernel) rfl
theorem hY_X7_layWays : oa_Y yX7_layWays cX7_layWays 7 none 0 := ⟨oa_at 1278 (by decide +kernel) rfl, oa_at 72 (by decide +kernel) rfl, by decide, by decide, by decide +kernel⟩
theorem hV_X7_layWays : oa_YV yX7_layWays := ⟨oa_at 1277 (by decide +kernel) rfl, oa_at 59 (by decide +kernel) rfl⟩
theorem lk_X7_255 : Cond.methodLink RX7 255 yX7_layWays ∈ oa_gw := oa_at 1275 (by decide +kernel) rfl
theorem hY_X7_isRing : oa_Y yX7_isRing cX7_isRing 4 (some .boolean) 1 := ⟨oa_at 1285 (by decide +kernel) rfl, oa_at 72 (by decide +kernel) rfl, by decide, by decide, by decide +kernel⟩
theorem hV_X7_isRing : oa_YV yX7_isRing := ⟨oa_at 1284 (by decide +kernel) rfl, oa_at 60 (by decide +kernel) rfl⟩
theorem lk_X7_258 : Cond.methodLink RX7 258 yX7_isRing ∈ oa_gw := oa_at 1282 (by decide +kernel) rfl
theorem cw_X7_163 : Cond.constantLong RX7 163 6 ∈ oa_gw := oa_at 1086 (by decide +kernel) rfl
theorem cw_X7_165 : Cond.constantLong RX7 165 20 ∈ oa_gw := oa_at 1087 (by decide +kernel) rfl
theorem cw_X7_232 : Cond.constant RX7 232 100000 ∈ oa_gw := oa_at 1219 (by decide +kernel) rfl
theorem hY_X7_readLine : oa_Y yX7_readLine cX7_readLine 2 none 0 := ⟨oa_at 1013 (by decide +kernel) rfl, oa_at 72 (by decide +kernel) rfl, by decide, by decide, by decide +kernel⟩
theorem hV_X7_readLine : oa_YV yX7_readLine := ⟨oa_at 1012 (by decide +kernel) rfl, oa_at 23 (by decide +kernel) rfl⟩
theorem lk_X7_123 : Cond.methodLink RX7 123 yX7_readLine ∈ oa_gw := oa_at 1010 (by decide +kernel) rfl
theorem hY_X7_looksBehind : oa_Y yX7_looksBehind cX7_looksBehind 8 none 0 := ⟨oa_at 1036 (by decide +kernel) rfl, oa_at 72 (by decide +kernel) rfl, by decide, by decide, by decide +kernel⟩
theorem hV_X7_looksBehind : oa_YV yX7_looksBehind := ⟨oa_at 1035 (by decide +kernel) rfl, oa_at 28 (by decide +kernel) rfl⟩
theorem lk_X7_126 : Cond.methodLink RX7 126 yX7_looksBehind ∈ oa_gw := oa_at 1033 (by decide +kernel) rfl
theorem to_0_3 {x : Int32} (h0 : ¬ x = 0) (h1 : ¬ x = 1) (h2 : ¬ x = 2) (h3 : ¬ x = 3) : x.toInt < 0 ∨ 3 < x.toInt := by
  have e : ∀ k : Int32, ¬ x = k → x.toInt ≠ k.toInt := fun k h q => h (Int32.toInt_inj.mp q)
  have e0 := e 0 h0
  have e1 := e 1 h1
  have e2 := e 2 h2
  have e3 := e 3 h3
  simp only [show ((0 : Int32)).toInt = 0 from rfl, show ((1 : Int32)).toInt = 1 from rfl, show ((2 : Int32)).toInt = 2 from rfl, show ((3 : Int32)).toInt = 3 from rfl] at e0 e1 e2 e3
  omega
theorem lo_0_1_28_31_34 {x : Int32} (h0 : ¬ x = 0) (h1 : ¬ x = 1) : Op.lookupswitch.offset (#[(0, 28), (1, 31)] : Array (Int × Int)).toList 34 x.toInt = 34 := by
  show Op.lookupswitch.offset [(0, 28), (1, 31)] 34 x.toInt = 34
  rw [lv_osw h0 (by decide), lv_osw h1 (by decide)]
  rfl
theorem to_0_2 {x : Int32} (h0 : ¬ x = 0) (h1 : ¬ x = 1) (h2 : ¬ x = 2) : x.toInt < 0 ∨ 2 < x.toInt := by
  have e : ∀ k : Int32, ¬ x = k → x.toInt ≠ k.toInt := fun k h q => h (Int32.toInt_inj.mp q)
  have e0 := e 0 h0
  have e1 := e 1 h1
  have e2 := e 2 h2
  simp only [show ((0 : Int32)).toInt = 0 from rfl, show ((1 : Int32)).toInt = 1 from rfl, show ((2 : Int32)).toInt = 2 from rfl] at e0 e1 e2
  omega
theorem to_0_4 {x : Int32} (h0 : ¬ x = 0) (h1 : ¬ x = 1) (h2 : ¬ x = 2) (h3 : ¬ x = 3) (h4 : ¬ x = 4) : x.toInt < 0 ∨ 4 < x.toInt := by
  have e : ∀ k : Int32, ¬ x = k → x.toInt ≠ k.toInt := fun k h q => h (Int32.toInt_inj.mp q)
  have e0 := e 0 h0
  have e1 := e 1 h1
  have e2 := e 2 h2
  have e3 := e 3 h3
  have e4 := e 4 h4
  simp only [show ((0 : Int32)).toInt = 0 from rfl, show ((1 : Int32)).toInt = 1 from rfl, show ((2 : Int32)).toInt = 2 from rfl, show ((3 : Int32)).toInt = 3 from rfl, show ((4 : Int32)).toInt = 4 from rfl] at e0 e1 e2 e3 e4
  omega
theorem to_0_5 {x : Int32} (h0 : ¬ x = 0) (h1 : ¬ x = 1) (h2 : ¬ x = 2) (h3 : ¬ x = 3) (h4 : ¬ x = 4) (h5 : ¬ x = 5) : x.toInt < 0 ∨ 5 < x.toInt := by
  have e : ∀ k : Int32, ¬ x = k → x.toInt ≠ k.toInt := fun k h q => h (Int32.toInt_inj.mp q)
  have e0 := e 0 h0
  have e1 := e 1 h1
  have e2 := e 2 h2
  have e3 := e 3 h3
  have e4 := e 4 h4
  have e5 := e 5 h5
  simp only [show ((0 : Int32)).toInt = 0 from rfl, show ((1 : Int32)).toInt = 1 from rfl, show ((2 : Int32)).toInt = 2 from rfl, show ((3 : Int32)).toInt = 3 from rfl, show ((4 : Int32)).toInt = 4 from rfl, show ((5 : Int32)).toInt = 5 from rfl] at e0 e1 e2 e3 e4 e5
  omega
theorem to_8_10 {x : Int32} (h8 : ¬ x = 8) (h9 : ¬ x = 9) (h10 : ¬ x = 10) : x.toInt < 8 ∨ 10 < x.toInt := by
  have e : ∀ k : Int32, ¬ x = k → x.toInt ≠ k.toInt := fun k h q => h (Int32.toInt_inj.mp q)
  have e8 := e 8 h8
  have e9 := e 9 h9
  have e10 := e 10 h10
  simp only [show ((8 : Int32)).toInt = 8 from rfl, show ((9 : Int32)).toInt = 9 from rfl, show ((10 : Int32)).toInt = 10 from rfl] at e8 e9 e10
  omega
theorem lo_0_1_25_33_41 {x : Int32} (h0 : ¬ x = 0) (h1 : ¬ x = 1) : Op.lookupswitch.offset (#[(0, 25), (1, 33)] : Array (Int × Int)).toList 41 x.toInt = 41 := by
  show Op.lookupswitch.offset [(0, 25), (1, 33)] 41 x.toInt = 41
  rw [lv_osw h0 (by decide), lv_osw h1 (by decide)]
  rfl
