/-! the methods as pure functions (printed by wip/whole/gen/run.py) -/
/-- how often a loop may turn: a number that nobody unfolds -/
noncomputable def oa_fu : Nat := Classical.choose (⟨1000, rfl⟩ : ∃ n : Nat, n = 1000)
theorem oa_fu_eq : oa_fu = 1000 := Classical.choose_spec (⟨1000, rfl⟩ : ∃ n : Nat, n = 1000)
noncomputable def f_J13_bitCount_95d88  (x0 : Int64) : Option (Int32) :=
  oa_let (x0 - ((Int64.toUInt64 x0 >>> (Int64.toUInt64 (Int32.toInt64 1) &&& Int64.toUInt64 63)).toInt64 &&& 6148914691236517205)) fun (y1 : Int64) =>
  oa_let ((y1 &&& 3689348814741910323) + ((Int64.toUInt64 y1 >>> (Int64.toUInt64 (Int32.toInt64 2) &&& Int64.toUInt64 63)).toInt64 &&& 3689348814741910323)) fun (y3 : Int64) =>
  oa_let ((y3 + (Int64.toUInt64 y3 >>> (Int64.toUInt64 (Int32.toInt64 4) &&& Int64.toUInt64 63)).toInt64) &&& 1085102592571150095) fun (y5 : Int64) =>
  oa_let (y5 + (Int64.toUInt64 y5 >>> (Int64.toUInt64 (Int32.toInt64 8) &&& Int64.toUInt64 63)).toInt64) fun (y7 : Int64) =>
  oa_let (y7 + (Int64.toUInt64 y7 >>> (Int64.toUInt64 (Int32.toInt64 16) &&& Int64.toUInt64 63)).toInt64) fun (y9 : Int64) =>
  oa_let (y9 + (Int64.toUInt64 y9 >>> (Int64.toUInt64 (Int32.toInt64 32) &&& Int64.toUInt64 63)).toInt64) fun (y11 : Int64) =>
  some (((Int64.toInt32 y11) &&& 127))
noncomputable def f_J6_bitCount_0f7a4  (x0 : Int32) : Option (Int32) :=
  oa_let (x0 - ((Int32.toUInt32 x0 >>> (Int32.toUInt32 1 &&& Int32.toUInt32 31)).toInt32 &&& 1431655765)) fun (y1 : Int32) =>
  oa_let ((y1 &&& 858993459) + ((Int32.toUInt32 y1 >>> (Int32.toUInt32 2 &&& Int32.toUInt32 31)).toInt32 &&& 858993459)) fun (y3 : Int32) =>
  oa_let ((y3 + (Int32.toUInt32 y3 >>> (Int32.toUInt32 4 &&& Int32.toUInt32 31)).toInt32) &&& 252645135) fun (y5 : Int32) =>
  oa_let (y5 + (Int32.toUInt32 y5 >>> (Int32.toUInt32 8 &&& Int32.toUInt32 31)).toInt32) fun (y7 : Int32) =>
  oa_let (y7 + (Int32.toUInt32 y7 >>> (Int32.toUInt32 16 &&& Int32.toUInt32 31)).toInt32) fun (y9 : Int32) =>
  some ((y9 &&& 63))
noncomputable def b_J6_numberOfTrailingZeros_0f7a4_62    (x0 : Int32) (x1 : Int32) : Option (Int32) :=
  if x0 ≤ 4 then (
    some ((x1 + (Int32.toUInt32 x0 >>> (Int32.toUInt32 1 &&& Int32.toUInt32 31)).toInt32)))
  else (
    oa_let ((Int32.toUInt32 x0 >>> (Int32.toUInt32 2 &&& Int32.toUInt32 31)).toInt32) fun (y14 : Int32) =>
    some (((x1 + 2) + (Int32.toUInt32 y14 >>> (Int32.toUInt32 1 &&& Int32.toUInt32 31)).toInt32)))
noncomputable def b_J6_numberOfTrailingZeros_0f7a4_49    (x0 : Int32) (x1 : Int32) : Option (Int32) :=
  if x0 ≤ 16 then (
    b_J6_numberOfTrailingZeros_0f7a4_62 x0 x1)
  else (
    oa_let ((Int32.toUInt32 x0 >>> (Int32.toUInt32 4 &&& Int32.toUInt32 31)).toInt32) fun (y11 : Int32) =>
    b_J6_numberOfTrailingZeros_0f7a4_62 y11 (x1 + 4))
noncomputable def b_J6_numberOfTrailingZeros_0f7a4_34    (x0 : Int32) (x1 : Int32) : Option (Int32) :=
  if x0 ≤ 256 then (
    b_J6_numberOfTrailingZeros_0f7a4_49 x0 x1)
  else (
    oa_let ((Int32.toUInt32 x0 >>> (Int32.toUInt32 8 &&& Int32.toUInt32 31)).toInt32) fun (y8 : Int32) =>
    b_J6_numberOfTrailingZeros_0f7a4_49 y8 (x1 + 8))
noncomputable def f_J6_numberOfTrailingZeros_0f7a4  (x0 : Int32) : Option (Int32) :=
  oa_let ((x0 ^^^ (-1)) &&& (x0 - 1)) fun (y1 : Int32) =>
  if 0 < y1 then (
    if y1 ≤ 65536 then (
      b_J6_numberOfTrailingZeros_0f7a4_34 y1 1)
    else (
      oa_let ((Int32.toUInt32 y1 >>> (Int32.toUInt32 16 &&& Int32.toUInt32 31)).toInt32) fun (y5 : Int32) =>
      b_J6_numberOfTrailingZeros_0f7a4_34 y5 (1 + 16)))
  else (
    some ((y1 &&& 32)))
noncomputable def f_X5_everybody (V : oa_I2)  : Option (Int32) :=
  some ((((1 : Int32) <<< ((V 5 0) &&& 31)) - 1))
noncomputable def b_X5_free_4 (V : oa_I2)   (k4 : Int32 → Int32 → Option (Int32)) (x1 : Int32) (x2 : Int32) : Option (Int32) :=
  if (V 5 0) ≤ x2 then (
    some (x1))
  else (
    (oa_rd (V 2) 6 x2).bind fun (y2 : Int32) =>
    (f_J6_bitCount_0f7a4 y2).bind fun (y4 : Int32) =>
    (oa_rd (V 0) 3 0).bind fun (y7 : Int32) =>
    if y7 ≤ y4 then (
      k4 x1 (x2 + 1))
    else (
      oa_let (x1 ||| ((1 : Int32) <<< (x2 &&& 31))) fun (y10 : Int32) =>
      k4 y10 (x2 + 1)))
noncomputable def l_X5_free_4 (V : oa_I2)   (n : Nat) (x1 : Int32) (x2 : Int32) : Option (Int32) :=
  oa_fix (fun k => oa_u fun (x1 : Int32) (x2 : Int32) => b_X5_free_4 V (fun x1 x2 => k (x1, x2)) x1 x2) n (x1, x2)
noncomputable def f_X5_free (V : oa_I2)  : Option (Int32) :=
  l_X5_free_4 V oa_fu 0 0
noncomputable def f_X5_trait (V : oa_I2) (x1 : Int32) (x2 : Int32) : Option (Int32) :=
  (oa_rd (V 1) 48 ((x1 * 6) + x2)).bind fun (y1 : Int32) =>
  some (y1)
noncomputable def b_X5_allOf_4 (V : oa_I2) (x1 : Int32)   (k4 : Int32 → Int32 → Option (Int32)) (x2 : Int32) (x3 : Int32) : Option (Int32) :=
  if (V 5 0) ≤ x3 then (
    some (x2))
  else (
    (f_X5_trait V 0 x3).bind fun (y2 : Int32) =>
    if y2 = x1 then (
      oa_let (x2 ||| ((1 : Int32) <<< (x3 &&& 31))) fun (y6 : Int32) =>
      k4 y6 (x3 + 1))
    else (
      k4 x2 (x3 + 1)))
noncomputable def l_X5_allOf_4 (V : oa_I2) (x1 : Int32)   (n : Nat) (x2 : Int32) (x3 : Int32) : Option (Int32) :=
  oa_fix (fun k => oa_u fun (x2 : Int32) (x3 : Int32) => b_X5_allOf_4 V x1 (fun x2 x3 => k (x2, x3)) x2 x3) n (x2, x3)
noncomputable def f_X5_allOf (V : oa_I2) (x1 : Int32) : Option (Int32) :=
  l_X5_allOf_4 V x1 oa_fu 0 0
noncomputable def f_X5_isAngry (V : oa_I2) (x1 : Int32) (x2 : Int32) : Option (Int32) :=
  (oa_rd (V 2) 6 x1).bind fun (y1 : Int32) =>
  if ((y1 >>> (x2 &&& 31)) &&& 1) = 0 then (
    some (0))
  else (
    some (1))
noncomputable def b_X5_angryWith_4 (V : oa_I2) (x1 : Int32)   (k4 : Int32 → Int32 → Option (Int32)) (x2 : Int32) (x3 : Int32) : Option (Int32) :=
  if (V 5 0) ≤ x3 then (
    some (x2))
  else (
    (f_X5_isAngry V x3 x1).bind fun (y2 : Int32) =>
    if y2 = 0 then (
      k4 x2 (x3 + 1))
    else (
      oa_let (x2 ||| ((1 : Int32) <<< (x3 &&& 31))) fun (y6 : Int32) =>
      k4 y6 (x3 + 1)))
noncomputable def l_X5_angryWith_4 (V : oa_I2) (x1 : Int32)   (n : Nat) (x2 : Int32) (x3 : Int32) : Option (Int32) :=
  oa_fix (fun k => oa_u fun (x2 : Int32) (x3 : Int32) => b_X5_angryWith_4 V x1 (fun x2 x3 => k (x2, x3)) x2 x3) n (x2, x3)
noncomputable def f_X5_angryWith (V : oa_I2) (x1 : Int32) : Option (Int32) :=
  l_X5_angryWith_4 V x1 oa_fu 0 0
noncomputable def b_X0_weightOf_5 (x0 : Int32) (x1 : Int32) (x2 : Int32)   (k5 : Int64 → Int32 → Option (Int64)) (x3 : Int64) (x5 : Int32) : Option (Int64) :=
  if x2 ≤ x5 then (
    some (x3))
  else (
    if x1 ≤ x5 then (
      oa_let (x3 * (Int32.toInt64 x0)) fun (y3 : Int64) =>
      k5 y3 (x5 + 1))
    else (
      oa_let (x3 * (Int32.toInt64 (10 - x0))) fun (y5 : Int64) =>
      k5 y5 (x5 + 1)))
noncomputable def l_X0_weightOf_5 (x0 : Int32) (x1 : Int32) (x2 : Int32)   (n : Nat) (x3 : Int64) (x5 : Int32) : Option (Int64) :=
  oa_fix (fun k => oa_u fun (x3 : Int64) (x5 : Int32) => b_X0_weightOf_5 x0 x1 x2 (fun x3 x5 => k (x3, x5)) x3 x5) n (x3, x5)
noncomputable def f_X0_weightOf  (x0 : Int32) (x1 : Int32) (x2 : Int32) : Option (Int64) :=
  l_X0_weightOf_5 x0 x1 x2 oa_fu 1 0
noncomputable def f_X5_minds (V : oa_I2) (x1 : Int32) (x2 : Int32) : Option (Int32) :=
  (f_X5_trait V 0 x1).bind fun (y1 : Int32) =>
  if y1 = 0 then (
    if x1 = x2 then (
      some (1))
    else (
      some (0)))
  else (
  if y1 = 1 then (
    if x1 = x2 then (
      (f_X5_trait V 2 x1).bind fun (y8 : Int32) =>
      (f_X5_trait V 6 x1).bind fun (y11 : Int32) =>
      if y8 < y11 then (
        some (0))
      else (
        some (1)))
    else (
      some (0)))
  else (
  if y1 = 2 then (
    if x1 = x2 then (
      some (1))
    else (
      (f_X5_trait V 7 x1).bind fun (y17 : Int32) =>
      if y17 = x2 then (
        some (1))
      else (
        some (0))))
  else (
  if y1 = 3 then (
    if x1 = x2 then (
      some (1))
    else (
      some (0)))
  else (
  some (0)))))
noncomputable def f_X6_costFor  (x0 : Int32) (x1 : Int32) (x2 : Int32) (x3 : Int32) : Option (Int32) :=
  some ((if ((x0 * x2) + x1) < (x0 * x3) then ((x0 * x2) + x1) else (x0 * x3)))
noncomputable def f_X5_costOf (V : oa_I2) (x1 : Int32) : Option (Int32) :=
  (f_X5_trait V 3 x1).bind fun (y1 : Int32) =>
  (f_X5_trait V 4 x1).bind fun (y4 : Int32) =>
  (f_X5_trait V 5 x1).bind fun (y7 : Int32) =>
  (oa_rd (V 0) 3 1).bind fun (y10 : Int32) =>
  (f_X6_costFor y1 y4 y7 y10).bind fun (y12 : Int32) =>
  some (y12)
noncomputable def b_X5_value_10 (V : oa_I2) (x1 : Int32) (x2 : Int32)   (k10 : Int32 → Int32 → Option (Int32)) (x3 : Int32) (x4 : Int32) : Option (Int32) :=
  if (V 5 0) ≤ x4 then (
    some (x3))
  else (
    if ((x2 >>> (x4 &&& 31)) &&& 1) = 0 then (
      k10 x3 (x4 + 1))
    else (
      (f_X5_minds V x4 x1).bind fun (y6 : Int32) =>
      if y6 = 0 then (
        k10 x3 (x4 + 1))
      else (
        (f_X5_costOf V x4).bind fun (y10 : Int32) =>
        oa_let (x3 - y10) fun (y13 : Int32) =>
        k10 y13 (x4 + 1))))
noncomputable def l_X5_value_10 (V : oa_I2) (x1 : Int32) (x2 : Int32)   (n : Nat) (x3 : Int32) (x4 : Int32) : Option (Int32) :=
  oa_fix (fun k => oa_u fun (x3 : Int32) (x4 : Int32) => b_X5_value_10 V x1 x2 (fun x3 x4 => k (x3, x4)) x3 x4) n (x3, x4)
noncomputable def f_X5_value (V : oa_I2) (x1 : Int32) (x2 : Int32) : Option (Int32) :=
  (f_X5_trait V 1 x1).bind fun (y1 : Int32) =>
  l_X5_value_10 V x1 x2 oa_fu y1 0
noncomputable def b_X5_choice_9 (V : oa_I2) (x1 : Int32) (x2 : Int32)   (k9 : Int32 → Int32 → Int32 → Option (Int32)) (x3 : Int32) (x4 : Int32) (x5 : Int32) : Option (Int32) :=
  if (V 5 0) ≤ x5 then (
    some (x3))
  else (
    if x5 = x1 then (
      k9 x3 x4 (x5 + 1))
    else (
      (f_X5_value V x5 x2).bind fun (y3 : Int32) =>
      if y3 ≤ x4 then (
        k9 x3 x4 (x5 + 1))
      else (
        k9 x5 y3 (x5 + 1))))
noncomputable def l_X5_choice_9 (V : oa_I2) (x1 : Int32) (x2 : Int32)   (n : Nat) (x3 : Int32) (x4 : Int32) (x5 : Int32) : Option (Int32) :=
  oa_fix (fun k => oa_u fun (x3 : Int32) => oa_u fun (x4 : Int32) (x5 : Int32) => b_X5_choice_9 V x1 x2 (fun x3 x4 x5 => k (x3, x4, x5)) x3 x4 x5) n (x3, x4, x5)
noncomputable def f_X5_choice (V : oa_I2) (x1 : Int32) (x2 : Int32) : Option (Int32) :=
  l_X5_choice_9 V x1 x2 oa_fu (-4) 0 0
noncomputable def b_X0_weigh_147 (V : oa_I2) (x2 : Int32)  (k78 : oa_J2 → Int32 → Option (oa_J2)) (J : oa_J2) (x3 : Int32) (x4 : Int32) (x5 : Int32) (x6 : Int32) (x7 : Int64) (s0 : Int32) : Option (oa_J2) :=
  if s0 = (-4) then (
    k78 J (x6 + 1))
  else (
    (oa_rdL (J 0) 6 s0).bind fun (y39 : Int64) =>
    (oa_wrL (J 0) 6 s0 (y39 + x7)).bind fun (g41 : Nat → Int64) =>
    oa_let (va_up J 0 g41) fun (J43 : oa_J2) =>
    k78 J43 (x6 + 1))
noncomputable def b_X0_weigh_78 (V : oa_I2) (x2 : Int32) (x3 : Int32) (x4 : Int32) (x5 : Int32)  (k78 : oa_J2 → Int32 → Option (oa_J2)) (J : oa_J2) (x6 : Int32) : Option (oa_J2) :=
  if ((1 : Int32) <<< ((V 5 0) &&& 31)) ≤ x6 then (
    some (J))
  else (
    if (x6 &&& (x3 ^^^ (-1))) = 0 then (
      (oa_rd (V 0) 3 2).bind fun (y26 : Int32) =>
      (f_J6_bitCount_0f7a4 x6).bind fun (y28 : Int32) =>
      (f_X0_weightOf y26 y28 ((V 5 0) - 1)).bind fun (y31 : Int64) =>
      if (lg_cmp y31 0) = 0 then (
        b_X0_weigh_147 V x2 k78 J x3 x4 x5 x6 y31 (-4))
      else (
        (f_X5_choice V x2 ((x4 ^^^ x6) &&& (x5 ^^^ (-1)))).bind fun (y35 : Int32) =>
        b_X0_weigh_147 V x2 k78 J x3 x4 x5 x6 y31 y35))
    else (
      k78 J (x6 + 1)))
noncomputable def l_X0_weigh_78 (V : oa_I2) (x2 : Int32) (x3 : Int32) (x4 : Int32) (x5 : Int32)  (n : Nat) (J : oa_J2) (x6 : Int32) : Option (oa_J2) :=
  oa_fix (fun k => oa_u fun (J : oa_J2) (x6 : Int32) => b_X0_weigh_78 V x2 x3 x4 x5 (fun J x6 => k (J, x6)) J x6) n (J, x6)
noncomputable def b_X0_weigh_15 (V : oa_I2) (x2 : Int32)   (k15 : oa_J2 → Int32 → Option (oa_J2)) (J : oa_J2) (x3 : Int32) : Option (oa_J2) :=
  if (V 5 0) ≤ x3 then (
    (f_X5_everybody V).bind fun (y6 : Int32) =>
    oa_let (y6 &&& (((1 : Int32) <<< (x2 &&& 31)) ^^^ (-1))) fun (y9 : Int32) =>
    (f_X5_free V).bind fun (y11 : Int32) =>
    (f_X5_allOf V 3).bind fun (y14 : Int32) =>
    oa_let ((y11 &&& (y14 ^^^ (-1))) &&& y9) fun (y17 : Int32) =>
    (f_X5_angryWith V x2).bind fun (y19 : Int32) =>
    l_X0_weigh_78 V x2 y9 y17 y19 oa_fu J 0)
  else (
    oa_let (va_up J 1 (vp_updL (J 1) 0 ((J 1 0) * 10))) fun (J22 : oa_J2) =>
    k15 J22 (x3 + 1))
noncomputable def l_X0_weigh_15 (V : oa_I2) (x2 : Int32)   (n : Nat) (J : oa_J2) (x3 : Int32) : Option (oa_J2) :=
  oa_fix (fun k => oa_u fun (J : oa_J2) (x3 : Int32) => b_X0_weigh_15 V x2 (fun J x3 => k (J, x3)) J x3) n (J, x3)
noncomputable def f_X0_weigh (J : oa_J2) (V : oa_I2) (x2 : Int32) : Option (oa_J2) :=
  oa_let (va_up J 0 (oa_fill 6 0 (J 0))) fun (J1 : oa_J2) =>
  oa_let (va_up J1 1 (vp_updL (J1 1) 0 1)) fun (J3 : oa_J2) =>
  l_X0_weigh_15 V x2 oa_fu J3 1
noncomputable def b_X1_same_2 (P : oa_I2) (x1 : Int32) (x2 : Int32)   (k2 : Int32 → Option (Int32)) (x3 : Int32) : Option (Int32) :=
  if 6 ≤ x3 then (
    some (1))
  else (
    (oa_rd (P 0) 600 ((x1 * 6) + x3)).bind fun (y2 : Int32) =>
    (oa_rd (P 0) 600 ((x2 * 6) + x3)).bind fun (y4 : Int32) =>
    if y2 = y4 then (
      k2 (x3 + 1))
    else (
      some (0)))
noncomputable def l_X1_same_2 (P : oa_I2) (x1 : Int32) (x2 : Int32)   (n : Nat) (x3 : Int32) : Option (Int32) :=
  oa_fix (fun k => fun (x3 : Int32) => b_X1_same_2 P x1 x2 (fun x3 => k x3) x3) n x3
noncomputable def f_X1_same (P : oa_I2) (x1 : Int32) (x2 : Int32) : Option (Int32) :=
  l_X1_same_2 P x1 x2 oa_fu 0
noncomputable def b_X1_hasLike_2 (P : oa_I2) (x1 : Int32) (x2 : Int32)   (k2 : Int32 → Option (Int32)) (x3 : Int32) : Option (Int32) :=
  if x2 ≤ x3 then (
    some (0))
  else (
    (f_X1_same P x3 x1).bind fun (y2 : Int32) =>
    if y2 = 0 then (
      k2 (x3 + 1))
    else (
      some (1)))
noncomputable def l_X1_hasLike_2 (P : oa_I2) (x1 : Int32) (x2 : Int32)   (n : Nat) (x3 : Int32) : Option (Int32) :=
  oa_fix (fun k => fun (x3 : Int32) => b_X1_hasLike_2 P x1 x2 (fun x3 => k x3) x3) n x3
noncomputable def f_X1_hasLike (P : oa_I2) (x1 : Int32) (x2 : Int32) : Option (Int32) :=
  l_X1_hasLike_2 P x1 x2 oa_fu 0
noncomputable def f_X5_ageOf (V : oa_I2) (x1 : Int32) (x2 : Int32) : Option (Int32) :=
  (oa_rd (V 3) 36 ((x1 * 6) + x2)).bind fun (y1 : Int32) =>
  some (y1)
noncomputable def b_X1_rowOf_4 (V : oa_I2) (x1 : Int32)   (k4 : Int32 → Int32 → Option (Int32)) (x2 : Int32) (x3 : Int32) : Option (Int32) :=
  if 6 ≤ x3 then (
    some (x2))
  else (
    (f_X5_isAngry V x1 x3).bind fun (y2 : Int32) =>
    if y2 = 0 then (
      oa_let ((x2 * 16) + 0) fun (y6 : Int32) =>
      k4 y6 (x3 + 1))
    else (
      (f_X5_ageOf V x1 x3).bind fun (y8 : Int32) =>
      oa_let ((x2 * 16) + (y8 + 1)) fun (y11 : Int32) =>
      k4 y11 (x3 + 1)))
noncomputable def l_X1_rowOf_4 (V : oa_I2) (x1 : Int32)   (n : Nat) (x2 : Int32) (x3 : Int32) : Option (Int32) :=
  oa_fix (fun k => oa_u fun (x2 : Int32) (x3 : Int32) => b_X1_rowOf_4 V x1 (fun x2 x3 => k (x2, x3)) x2 x3) n (x2, x3)
noncomputable def f_X1_rowOf (V : oa_I2) (x1 : Int32) : Option (Int32) :=
  l_X1_rowOf_4 V x1 oa_fu 0 0
noncomputable def b_X1_note_2 (V : oa_I2) (x1 : Int32)   (k2 : oa_I2 → Int32 → Option (oa_I2)) (P : oa_I2) (x3 : Int32) : Option (oa_I2) :=
  if 6 ≤ x3 then (
    some (P))
  else (
    (f_X1_rowOf V x3).bind fun (y2 : Int32) =>
    (oa_wr (P 0) 600 ((x1 * 6) + x3) y2).bind fun (g5 : Nat → Int32) =>
    oa_let (va_up P 0 g5) fun (P7 : oa_I2) =>
    k2 P7 (x3 + 1))
noncomputable def l_X1_note_2 (V : oa_I2) (x1 : Int32)   (n : Nat) (P : oa_I2) (x3 : Int32) : Option (oa_I2) :=
  oa_fix (fun k => oa_u fun (P : oa_I2) (x3 : Int32) => b_X1_note_2 V x1 (fun P x3 => k (P, x3)) P x3) n (P, x3)
noncomputable def f_X1_note (P : oa_I2) (V : oa_I2) (x1 : Int32) : Option (oa_I2) :=
  l_X1_note_2 V x1 oa_fu P 0
noncomputable def b_X2_endsOf_8 (R : oa_I2) (V : oa_I2) (x2 : Int32) (x3 : Int32)   (k8 : Int32 → Int32 → Option (Int32)) (x4 : Int32) (x5 : Int32) : Option (Int32) :=
  if (V 5 0) ≤ x5 then (
    some (x4))
  else (
    if ((x2 >>> (x5 &&& 31)) &&& 1) = 0 then (
      k8 x4 (x5 + 1))
    else (
      (oa_rd (R 0) 64 (x2 &&& (((1 : Int32) <<< (x5 &&& 31)) ^^^ (-1)))).bind fun (y5 : Int32) =>
      (f_X5_angryWith V x5).bind fun (y7 : Int32) =>
      if (y5 &&& y7) = 0 then (
        k8 x4 (x5 + 1))
      else (
        oa_let (x4 ||| ((1 : Int32) <<< (x5 &&& 31))) fun (y11 : Int32) =>
        k8 y11 (x5 + 1))))
noncomputable def l_X2_endsOf_8 (R : oa_I2) (V : oa_I2) (x2 : Int32) (x3 : Int32)   (n : Nat) (x4 : Int32) (x5 : Int32) : Option (Int32) :=
  oa_fix (fun k => oa_u fun (x4 : Int32) (x5 : Int32) => b_X2_endsOf_8 R V x2 x3 (fun x4 x5 => k (x4, x5)) x4 x5) n (x4, x5)
noncomputable def f_X2_endsOf (R : oa_I2) (V : oa_I2) (x2 : Int32) (x3 : Int32) : Option (Int32) :=
  oa_let (x3 + 1) fun (y1 : Int32) =>
  l_X2_endsOf_8 R V x2 x3 oa_fu 0 y1
noncomputable def b_X2_noteRing_27 (x1 : Int32) (x2 : Int32)   (R : oa_I2) : Option (oa_I2) :=
  oa_let (va_up R 1 (upd (R 1) 1 (oa_max (R 1 1) x2))) fun (R7 : oa_I2) =>
  some (R7)
noncomputable def b_X2_noteRing_17 (x1 : Int32) (x2 : Int32)   (R : oa_I2) : Option (oa_I2) :=
  oa_let (va_up R 1 (upd (R 1) 0 x2)) fun (R3 : oa_I2) =>
  oa_let (va_up R3 1 (upd (R3 1) 2 x1)) fun (R5 : oa_I2) =>
  b_X2_noteRing_27 x1 x2 R5
noncomputable def f_X2_noteRing (R : oa_I2) (x1 : Int32) (x2 : Int32) : Option (oa_I2) :=
  if (R 1 0) = (-4) then (
    b_X2_noteRing_17 x1 x2 R)
  else (
    if (R 1 0) ≤ x2 then (
      b_X2_noteRing_27 x1 x2 R)
    else (
      b_X2_noteRing_17 x1 x2 R))
noncomputable def b_X2_find_63 (V : oa_I2)  (k20 : oa_I2 → Int32 → Option (oa_I2)) (R : oa_I2) (x2 : Int32) (x3 : Int32) (x4 : Int32) (s1 : Int32) (s2 : Int32) : Option (oa_I2) :=
  (oa_wr (R 0) 64 s1 s2).bind fun (g18 : Nat → Int32) =>
  oa_let (va_up R 0 g18) fun (R20 : oa_I2) =>
  if x4 ≤ 1 then (
    k20 R20 (x2 + 1))
  else (
    (oa_rd (R20 0) 64 x2).bind fun (y23 : Int32) =>
    (f_X5_angryWith V x3).bind fun (y25 : Int32) =>
    if (y23 &&& y25) = 0 then (
      k20 R20 (x2 + 1))
    else (
      (f_X2_noteRing R20 x2 x4).bind fun (R29 : oa_I2) =>
      k20 R29 (x2 + 1)))
noncomputable def b_X2_find_20 (V : oa_I2)   (k20 : oa_I2 → Int32 → Option (oa_I2)) (R : oa_I2) (x2 : Int32) : Option (oa_I2) :=
  if ((1 : Int32) <<< ((V 5 0) &&& 31)) ≤ x2 then (
    some (R))
  else (
    (f_J6_numberOfTrailingZeros_0f7a4 x2).bind fun (y8 : Int32) =>
    (f_J6_bitCount_0f7a4 x2).bind fun (y11 : Int32) =>
    if y11 = 1 then (
      b_X2_find_63 V k20 R x2 y8 y11 x2 x2)
    else (
      (f_X2_endsOf R V x2 y8).bind fun (y15 : Int32) =>
      b_X2_find_63 V k20 R x2 y8 y11 x2 y15))
noncomputable def l_X2_find_20 (V : oa_I2)   (n : Nat) (R : oa_I2) (x2 : Int32) : Option (oa_I2) :=
  oa_fix (fun k => oa_u fun (R : oa_I2) (x2 : Int32) => b_X2_find_20 V (fun R x2 => k (R, x2)) R x2) n (R, x2)
noncomputable def f_X2_find (R : oa_I2) (V : oa_I2)  : Option (oa_I2) :=
  oa_let (va_up R 1 (upd (R 1) 0 (-4))) fun (R1 : oa_I2) =>
  oa_let (va_up R1 1 (upd (R1 1) 1 (-4))) fun (R3 : oa_I2) =>
  oa_let (va_up R3 1 (upd (R3 1) 2 (-4))) fun (R5 : oa_I2) =>
  l_X2_find_20 V oa_fu R5 1
noncomputable def f_X3_faultAs (S : oa_I2) (x1 : Int32) : Option (Int32) :=
  if (S 1 0) = (-4) then (
    some (1))
  else (
    if x1 = (S 1 1) then (
      some (0))
    else (
      some (3)))
noncomputable def f_X3_hasCell (S : oa_I2) (x1 : Int64) : Option (Int32) :=
  if (lg_cmp x1 0) < 0 then (
    some (0))
  else (
    if 0 ≤ (lg_cmp x1 (Int32.toInt64 (S 1 0))) then (
      some (0))
    else (
      some (1)))
noncomputable def f_X3_lowestBits (S : oa_I2) (x1 : Int32) : Option (Int32) :=
  if (S 1 1) = 0 then (
    some ((Int32.toInt8 x1).toInt32))
  else (
  if (S 1 1) = 1 then (
    some ((Int32.toInt16 x1).toInt32))
  else (
  some (x1)))
noncomputable def f_X3_put (S : oa_I2) (x1 : Int32) (x2 : Int32) : Option (Int32 × oa_I2) :=
  if (S 1 0) = (-4) then (
    some (1, S))
  else (
    (f_X3_hasCell S (Int32.toInt64 x1)).bind fun (y2 : Int32) =>
    if y2 = 0 then (
      some (2, S))
    else (
      (f_X3_lowestBits S x2).bind fun (y6 : Int32) =>
      (oa_wr (S 0) 40 x1 y6).bind fun (g9 : Nat → Int32) =>
      oa_let (va_up S 0 g9) fun (S11 : oa_I2) =>
      some (0, S11)))
noncomputable def f_X3_renew (S : oa_I2) (x1 : Int32) (x2 : Int32) : Option (oa_I2) :=
  oa_let (va_up S 0 (oa_fill 40 0 (S 0))) fun (S1 : oa_I2) =>
  oa_let (va_up S1 1 (upd (S1 1) 1 x1)) fun (S3 : oa_I2) =>
  oa_let (va_up S3 1 (upd (S3 1) 0 x2)) fun (S5 : oa_I2) =>
  some (S5)
noncomputable def b_X4_kindOf_28 (x0 : Int32)    : Option (Int32) :=
  if x0 = 59 then (
    some (3))
  else (
    some (4))
noncomputable def b_X4_kindOf_14 (x0 : Int32)    : Option (Int32) :=
  if x0 < 48 then (
    b_X4_kindOf_28 x0)
  else (
    if 57 < x0 then (
      b_X4_kindOf_28 x0)
    else (
      some (2)))
noncomputable def f_X4_kindOf  (x0 : Int32) : Option (Int32) :=
  if x0 < 97 then (
    b_X4_kindOf_14 x0)
  else (
    if 122 < x0 then (
      b_X4_kindOf_14 x0)
    else (
      some (1)))
noncomputable def f_X4_fail (T : oa_I2) (V : oa_I2) (x1 : Int32) (x2 : Int32) : Option (Int32 × oa_I2) :=
  oa_let (va_up T 1 (upd (T 1) 1 x1)) fun (T1 : oa_I2) =>
  oa_let (va_up T1 1 (upd (T1 1) 2 x2)) fun (T3 : oa_I2) =>
  some (0, T3)
noncomputable def b_X4_advance_159 (V : oa_I2)   (T : oa_I2) : Option (Int32 × oa_I2) :=
  if (T 1 5) = 2 then (
    if ((T 1 4) - (T 1 6)) ≤ 3 then (
      some (1, T))
    else (
      (f_X4_fail T V 1 (T 1 6)).bind <| oa_u fun (y40 : Int32) (T41 : oa_I2) =>
      (oa_zc y40).bind fun (z44 : Int32) =>
      some (z44, T41)))
  else (
    some (1, T))
noncomputable def b_X4_advance_108 (V : oa_I2)   (k108 : oa_I2 → Option (Int32 × oa_I2)) (T : oa_I2) : Option (Int32 × oa_I2) :=
  if (T 1 5) = 3 then (
    b_X4_advance_159 V T)
  else (
    if (T 1 0) ≤ (T 1 4) then (
      b_X4_advance_159 V T)
    else (
      (oa_rd (T 0) 320 (T 1 4)).bind fun (y30 : Int32) =>
      (f_X4_kindOf y30).bind fun (y32 : Int32) =>
      if y32 = (T 1 5) then (
        oa_let (va_up T 1 (upd (T 1) 4 ((T 1 4) + 1))) fun (T36 : oa_I2) =>
        k108 T36)
      else (
        b_X4_advance_159 V T)))
noncomputable def l_X4_advance_108 (V : oa_I2)   (n : Nat) (T : oa_I2) : Option (Int32 × oa_I2) :=
  oa_fix (fun k => fun (T : oa_I2) => b_X4_advance_108 V (fun T => k T) T) n T
noncomputable def b_X4_advance_38 (V : oa_I2)   (T : oa_I2) : Option (Int32 × oa_I2) :=
  oa_let (va_up T 1 (upd (T 1) 6 (T 1 4))) fun (T7 : oa_I2) =>
  if (T7 1 4) < (T7 1 0) then (
    (oa_rd (T7 0) 320 (T7 1 4)).bind fun (y10 : Int32) =>
    (f_X4_kindOf y10).bind fun (y12 : Int32) =>
    oa_let (va_up T7 1 (upd (T7 1) 5 y12)) fun (T15 : oa_I2) =>
    if (T15 1 5) = 4 then (
      (f_X4_fail T15 V 1 (T15 1 6)).bind <| oa_u fun (y20 : Int32) (T21 : oa_I2) =>
      (oa_zc y20).bind fun (z24 : Int32) =>
      some (z24, T21))
    else (
      oa_let (va_up T15 1 (upd (T15 1) 4 ((T15 1 4) + 1))) fun (T18 : oa_I2) =>
      l_X4_advance_108 V oa_fu T18))
  else (
    oa_let (va_up T7 1 (upd (T7 1) 5 0)) fun (T26 : oa_I2) =>
    some (1, T26))
noncomputable def b_X4_advance_0 (V : oa_I2)   (k0 : oa_I2 → Option (Int32 × oa_I2)) (T : oa_I2) : Option (Int32 × oa_I2) :=
  if (T 1 0) ≤ (T 1 4) then (
    b_X4_advance_38 V T)
  else (
    (oa_rd (T 0) 320 (T 1 4)).bind fun (y2 : Int32) =>
    if y2 = 32 then (
      oa_let (va_up T 1 (upd (T 1) 4 ((T 1 4) + 1))) fun (T5 : oa_I2) =>
      k0 T5)
    else (
      b_X4_advance_38 V T))
noncomputable def l_X4_advance_0 (V : oa_I2)   (n : Nat) (T : oa_I2) : Option (Int32 × oa_I2) :=
  oa_fix (fun k => fun (T : oa_I2) => b_X4_advance_0 V (fun T => k T) T) n T
noncomputable def f_X4_advance (T : oa_I2) (V : oa_I2)  : Option (Int32 × oa_I2) :=
  l_X4_advance_0 V oa_fu T
noncomputable def b_X4_append_18 (V : oa_I2) (x1 : Int64)   (k18 : oa_I2 → Int32 → Option (Int32 × oa_I2)) (T : oa_I2) (x3 : Int32) : Option (Int32 × oa_I2) :=
  if 8 ≤ x3 then (
    oa_let (va_up T 1 (upd (T 1) 0 ((T 1 0) + 8))) fun (T3 : oa_I2) =>
    some ((T3 1 0), T3))
  else (
    (oa_wr (T 0) 320 ((T 1 0) + x3) ((Int64.toInt32 ((Int64.toUInt64 x1 >>> (Int64.toUInt64 (Int32.toInt64 (56 - (8 * x3))) &&& Int64.toUInt64 63)).toInt64)) &&& 255)).bind fun (g5 : Nat → Int32) =>
    oa_let (va_up T 0 g5) fun (T7 : oa_I2) =>
    k18 T7 (x3 + 1))
noncomputable def l_X4_append_18 (V : oa_I2) (x1 : Int64)   (n : Nat) (T : oa_I2) (x3 : Int32) : Option (Int32 × oa_I2) :=
  oa_fix (fun k => oa_u fun (T : oa_I2) (x3 : Int32) => b_X4_append_18 V x1 (fun T x3 => k (T, x3)) T x3) n (T, x3)
noncomputable def f_X4_append (T : oa_I2) (V : oa_I2) (x1 : Int64) : Option (Int32 × oa_I2) :=
  if ((T 1 0) + 8) ≤ 320 then (
    l_X4_append_18 V x1 oa_fu T 0)
  else (
    some ((-3), T))
noncomputable def f_X5_angersOf (V : oa_I2) (x1 : Int32) : Option (Int32) :=
  (oa_rd (V 2) 6 x1).bind fun (y1 : Int32) =>
  (f_J6_bitCount_0f7a4 y1).bind fun (y3 : Int32) =>
  some (y3)
noncomputable def b_X4_checkAll_90 (V : oa_I2)  (k6 : Int32 → Int32 → Int32 → Option (oa_I2)) (T : oa_I2) (x2 : Int32) (x3 : Int32) (s0 : Int32) (s1 : Int32) : Option (oa_I2) :=
  oa_let (s0 &&& s1) fun (y26 : Int32) =>
  (f_X5_angersOf V x3).bind fun (y28 : Int32) =>
  (oa_rd (V 0) 3 0).bind fun (y31 : Int32) =>
  if y31 < y28 then (
    oa_let (x2 &&& 0) fun (y34 : Int32) =>
    k6 y26 y34 (x3 + 1))
  else (
    oa_let (x2 &&& 1) fun (y36 : Int32) =>
    k6 y26 y36 (x3 + 1))
noncomputable def b_X4_checkAll_71 (V : oa_I2)  (k6 : Int32 → Int32 → Int32 → Option (oa_I2)) (T : oa_I2) (x1 : Int32) (x2 : Int32) (x3 : Int32) (x4 : Int32) (s0 : Int32) (s1 : Int32) : Option (oa_I2) :=
  oa_let (s0 ||| s1) fun (y23 : Int32) =>
  if (y23 &&& (x4 ^^^ (-1))) = 0 then (
    b_X4_checkAll_90 V k6 T x2 x3 x1 1)
  else (
    b_X4_checkAll_90 V k6 T x2 x3 x1 0)
noncomputable def b_X4_checkAll_6 (V : oa_I2) (T : oa_I2)  (k6 : Int32 → Int32 → Int32 → Option (oa_I2)) (x1 : Int32) (x2 : Int32) (x3 : Int32) : Option (oa_I2) :=
  if (V 5 0) ≤ x3 then (
    if x1 = 0 then (
      (f_X4_fail T V 6 (T 1 0)).bind <| oa_u fun (y8 : Int32) (T9 : oa_I2) =>
      some (T9))
    else (
      if x2 = 0 then (
        (f_X4_fail T V 7 (T 1 0)).bind <| oa_u fun (y4 : Int32) (T5 : oa_I2) =>
        some (T5))
      else (
        some (T))))
  else (
    (f_X5_everybody V).bind fun (y12 : Int32) =>
    oa_let (y12 &&& (((1 : Int32) <<< (x3 &&& 31)) ^^^ (-1))) fun (y15 : Int32) =>
    (f_X5_trait V 7 x3).bind fun (y17 : Int32) =>
    (oa_rd (V 2) 6 x3).bind fun (y20 : Int32) =>
    if y17 = (-4) then (
      b_X4_checkAll_71 V k6 T x1 x2 x3 y15 (y20 &&& (-65)) 0)
    else (
      b_X4_checkAll_71 V k6 T x1 x2 x3 y15 (y20 &&& (-65)) ((1 : Int32) <<< (y17 &&& 31))))
noncomputable def l_X4_checkAll_6 (V : oa_I2) (T : oa_I2)  (n : Nat) (x1 : Int32) (x2 : Int32) (x3 : Int32) : Option (oa_I2) :=
  oa_fix (fun k => oa_u fun (x1 : Int32) => oa_u fun (x2 : Int32) (x3 : Int32) => b_X4_checkAll_6 V T (fun x1 x2 x3 => k (x1, x2, x3)) x1 x2 x3) n (x1, x2, x3)
noncomputable def f_X4_checkAll (T : oa_I2) (V : oa_I2)  : Option (oa_I2) :=
  l_X4_checkAll_6 V T oa_fu 1 1 0
noncomputable def f_X6_within  (x0 : Int32) (x1 : Int32) (x2 : Int32) : Option (Int32) :=
  if x0 < x1 then (
    some (0))
  else (
    if x2 < x0 then (
      some (0))
    else (
      some (1)))
noncomputable def f_X4_cut (T : oa_I2) (V : oa_I2) (x1 : Int32) : Option (Int32 × oa_I2) :=
  (f_X6_within x1 0 (T 1 0)).bind fun (y1 : Int32) =>
  if y1 = 0 then (
    some ((-1), T))
  else (
    oa_let (T 1 0) fun (y5 : Int32) =>
    oa_let (va_up T 1 (upd (T 1) 0 x1)) fun (T7 : oa_I2) =>
    some (y5, T7))
noncomputable def b_X4_isName_31 (kS : Nat) (T : oa_I2) (V : oa_I2)   (k31 : Int32 → Option (Int32)) (x2 : Int32) : Option (Int32) :=
  if (T 1 4) ≤ x2 then (
    some (1))
  else (
    (oa_rd (T 0) 320 x2).bind fun (y6 : Int32) =>
    (oa_sch kS (x2 - (T 1 6))).bind fun (y8 : Int32) =>
    if y6 = y8 then (
      k31 (x2 + 1))
    else (
      some (0)))
noncomputable def l_X4_isName_31 (kS : Nat) (T : oa_I2) (V : oa_I2)   (n : Nat) (x2 : Int32) : Option (Int32) :=
  oa_fix (fun k => fun (x2 : Int32) => b_X4_isName_31 kS T V (fun x2 => k x2) x2) n x2
noncomputable def f_X4_isName (kS : Nat) (T : oa_I2) (V : oa_I2)  : Option (Int32) :=
  if (T 1 5) = 1 then (
    if (nI (oa_len.getD kS 0)) = ((T 1 4) - (T 1 6)) then (
      oa_let (T 1 6) fun (y3 : Int32) =>
      l_X4_isName_31 kS T V oa_fu y3)
    else (
      some (0)))
  else (
    some (0))
noncomputable def f_X4_lineNamed (T : oa_I2) (V : oa_I2)  : Option (Int32) :=
  (f_X4_isName 0 T V).bind fun (y1 : Int32) =>
  if y1 = 0 then (
    (f_X4_isName 1 T V).bind fun (y5 : Int32) =>
    if y5 = 0 then (
      (f_X4_isName 2 T V).bind fun (y9 : Int32) =>
      if y9 = 0 then (
        (f_X4_isName 3 T V).bind fun (y13 : Int32) =>
        if y13 = 0 then (
          some ((-4)))
        else (
          some (2)))
      else (
        some (1)))
    else (
      some (0)))
  else (
    some (3))
noncomputable def f_X4_misplaced (T : oa_I2) (V : oa_I2)  : Option (Int32 × oa_I2) :=
  (f_X4_fail T V 2 (T 1 6)).bind <| oa_u fun (y1 : Int32) (T2 : oa_I2) =>
  (oa_zc y1).bind fun (z5 : Int32) =>
  some (z5, T2)
noncomputable def f_X5_putTrait (V : oa_I2) (x1 : Int32) (x2 : Int32) (x3 : Int32) : Option (oa_I2) :=
  (oa_wr (V 1) 48 ((x1 * 6) + x2) x3).bind fun (g1 : Nat → Int32) =>
  oa_let (va_up V 1 g1) fun (V3 : oa_I2) =>
  some (V3)
noncomputable def f_X5_start (V : oa_I2) (x1 : Int32) (x2 : Int32) : Option (oa_I2) :=
  (oa_rd (V 2) 6 x1).bind fun (y1 : Int32) =>
  (oa_wr (V 2) 6 x1 (y1 ||| ((1 : Int32) <<< (x2 &&& 31)))).bind fun (g3 : Nat → Int32) =>
  oa_let (va_up V 2 g3) fun (V5 : oa_I2) =>
  if x2 = 6 then (
    some (V5))
  else (
    (oa_wr (V5 3) 36 ((x1 * 6) + x2) 0).bind fun (g8 : Nat → Int32) =>
    oa_let (va_up V5 3 g8) fun (V10 : oa_I2) =>
    some (V10))
noncomputable def f_X4_noteWith (T : oa_I2) (V : oa_I2) (x1 : Int32) (x2 : Int32) : Option (oa_I2) :=
  if x2 = 0 then (
    (f_X5_putTrait V 6 x1 (T 1 7)).bind fun (V2 : oa_I2) =>
    some (V2))
  else (
  if x2 = 1 then (
    (f_X5_putTrait V 7 x1 (T 1 7)).bind fun (V6 : oa_I2) =>
    some (V6))
  else (
  if x2 = 2 then (
    (f_X5_start V x1 (T 1 7)).bind fun (V10 : oa_I2) =>
    some (V10))
  else (
  (f_X5_start V x1 6).bind fun (V13 : oa_I2) =>
  some (V13))))
noncomputable def f_X4_sortNamed (T : oa_I2) (V : oa_I2)  : Option (Int32) :=
  (f_X4_isName 4 T V).bind fun (y1 : Int32) =>
  if y1 = 0 then (
    (f_X4_isName 5 T V).bind fun (y5 : Int32) =>
    if y5 = 0 then (
      (f_X4_isName 6 T V).bind fun (y9 : Int32) =>
      if y9 = 0 then (
        (f_X4_isName 7 T V).bind fun (y13 : Int32) =>
        if y13 = 0 then (
          (f_X4_isName 8 T V).bind fun (y17 : Int32) =>
          if y17 = 0 then (
            some ((-4)))
          else (
            some (4)))
        else (
          some (3)))
      else (
        some (2)))
    else (
      some (1)))
  else (
    some (0))
noncomputable def f_X4_takeClosing (T : oa_I2) (V : oa_I2)  : Option (Int32 × oa_I2) :=
  if (T 1 5) = 3 then (
    oa_let (va_up T 1 (upd (T 1) 3 ((T 1 3) + 1))) fun (T2 : oa_I2) =>
    (f_X4_advance T2 V).bind <| oa_u fun (y4 : Int32) (T5 : oa_I2) =>
    (oa_zc y4).bind fun (z8 : Int32) =>
    some (z8, T5))
  else (
    (f_X4_misplaced T V).bind <| oa_u fun (y10 : Int32) (T11 : oa_I2) =>
    (oa_zc y10).bind fun (z14 : Int32) =>
    some (z14, T11))
noncomputable def b_X4_valueOfToken_7 (T : oa_I2) (V : oa_I2)   (k7 : Int32 → Int32 → Option (Int32)) (x1 : Int32) (x2 : Int32) : Option (Int32) :=
  if (T 1 4) ≤ x2 then (
    some (x1))
  else (
    (oa_rd (T 0) 320 x2).bind fun (y4 : Int32) =>
    oa_let (((x1 * 10) + y4) - 48) fun (y6 : Int32) =>
    k7 y6 (x2 + 1))
noncomputable def l_X4_valueOfToken_7 (T : oa_I2) (V : oa_I2)   (n : Nat) (x1 : Int32) (x2 : Int32) : Option (Int32) :=
  oa_fix (fun k => oa_u fun (x1 : Int32) (x2 : Int32) => b_X4_valueOfToken_7 T V (fun x1 x2 => k (x1, x2)) x1 x2) n (x1, x2)
noncomputable def f_X4_valueOfToken (T : oa_I2) (V : oa_I2)  : Option (Int32) :=
  oa_let (T 1 6) fun (y1 : Int32) =>
  l_X4_valueOfToken_7 T V oa_fu 0 y1
noncomputable def f_X4_takeNumber (T : oa_I2) (V : oa_I2) (x1 : Int32) (x2 : Int32) : Option (Int32 × oa_I2) :=
  (f_X4_advance T V).bind <| oa_u fun (y1 : Int32) (T2 : oa_I2) =>
  if y1 = 0 then (
    some (0, T2))
  else (
    if (T2 1 5) = 2 then (
      (f_X4_valueOfToken T2 V).bind fun (y7 : Int32) =>
      oa_let (va_up T2 1 (upd (T2 1) 7 y7)) fun (T10 : oa_I2) =>
      (f_X6_within (T10 1 7) x1 x2).bind fun (y12 : Int32) =>
      if y12 = 0 then (
        (f_X4_fail T10 V 3 (T10 1 6)).bind <| oa_u fun (y16 : Int32) (T17 : oa_I2) =>
        if y16 = 0 then (
          some (0, T17))
        else (
          some (1, T17)))
      else (
        some (1, T10)))
    else (
      (f_X4_misplaced T2 V).bind <| oa_u fun (y21 : Int32) (T22 : oa_I2) =>
      (oa_zc y21).bind fun (z25 : Int32) =>
      some (z25, T22)))
noncomputable def f_X4_withNamed (T : oa_I2) (V : oa_I2)  : Option (Int32) :=
  (f_X4_isName 9 T V).bind fun (y1 : Int32) =>
  if y1 = 0 then (
    (f_X4_isName 10 T V).bind fun (y5 : Int32) =>
    if y5 = 0 then (
      (f_X4_isName 11 T V).bind fun (y9 : Int32) =>
      if y9 = 0 then (
        (f_X4_isName 12 T V).bind fun (y13 : Int32) =>
        if y13 = 0 then (
          some ((-4)))
        else (
          some (3)))
      else (
        some (2)))
    else (
      some (1)))
  else (
    some (0))
noncomputable def b_X4_takeWiths_94 (x1 : Int32)  (k4 : oa_I2 → oa_I2 → Int32 → Int32 → Option (Int32 × oa_I2 × oa_I2)) (T : oa_I2) (V : oa_I2) (x2 : Int32) (x3 : Int32) (x4 : Int32) : Option (Int32 × oa_I2 × oa_I2) :=
  (f_X4_noteWith T V x1 x4).bind fun (V26 : oa_I2) =>
  (f_X4_advance T V26).bind <| oa_u fun (y29 : Int32) (T30 : oa_I2) =>
  if y29 = 0 then (
    some (0, T30, V26))
  else (
    k4 T30 V26 x2 (x3 + 1))
noncomputable def b_X4_takeWiths_86 (x1 : Int32)  (k4 : oa_I2 → oa_I2 → Int32 → Int32 → Option (Int32 × oa_I2 × oa_I2)) (T : oa_I2) (V : oa_I2) (x2 : Int32) (x3 : Int32) (x4 : Int32) (s1 : Int32) (s2 : Int32) : Option (Int32 × oa_I2 × oa_I2) :=
  (f_X4_takeNumber T V s1 s2).bind <| oa_u fun (y34 : Int32) (T35 : oa_I2) =>
  if y34 = 0 then (
    some (0, T35, V))
  else (
    b_X4_takeWiths_94 x1 k4 T35 V x2 x3 x4)
noncomputable def b_X4_takeWiths_4 (x1 : Int32)   (k4 : oa_I2 → oa_I2 → Int32 → Int32 → Option (Int32 × oa_I2 × oa_I2)) (T : oa_I2) (V : oa_I2) (x2 : Int32) (x3 : Int32) : Option (Int32 × oa_I2 × oa_I2) :=
  if 320 ≤ x3 then (
    some (1, T, V))
  else (
    if (T 1 5) = 1 then (
      (f_X4_withNamed T V).bind fun (y3 : Int32) =>
      if y3 = (-4) then (
        (f_X4_misplaced T V).bind <| oa_u fun (y20 : Int32) (T21 : oa_I2) =>
        (oa_zc y20).bind fun (z24 : Int32) =>
        some (z24, T21, V))
      else (
        if ((x2 >>> (y3 &&& 31)) &&& 1) = 0 then (
          oa_let (x2 ||| ((1 : Int32) <<< (y3 &&& 31))) fun (y8 : Int32) =>
          if y3 = 3 then (
            b_X4_takeWiths_94 x1 k4 T V y8 x3 y3)
          else (
            if y3 = 0 then (
              (oa_rd (oa_tbv 1) (oa_tln 1) 6).bind fun (y12 : Int32) =>
              b_X4_takeWiths_86 x1 k4 T V y8 x3 y3 0 y12)
            else (
              b_X4_takeWiths_86 x1 k4 T V y8 x3 y3 0 5)))
        else (
          (f_X4_fail T V 4 (T 1 6)).bind <| oa_u fun (y14 : Int32) (T15 : oa_I2) =>
          (oa_zc y14).bind fun (z18 : Int32) =>
          some (z18, T15, V))))
    else (
      some (1, T, V)))
noncomputable def l_X4_takeWiths_4 (x1 : Int32)   (n : Nat) (T : oa_I2) (V : oa_I2) (x2 : Int32) (x3 : Int32) : Option (Int32 × oa_I2 × oa_I2) :=
  oa_fix (fun k => oa_u fun (T : oa_I2) => oa_u fun (V : oa_I2) => oa_u fun (x2 : Int32) (x3 : Int32) => b_X4_takeWiths_4 x1 (fun T V x2 x3 => k (T, V, x2, x3)) T V x2 x3) n (T, V, x2, x3)
noncomputable def f_X4_takeWiths (T : oa_I2) (V : oa_I2) (x1 : Int32) : Option (Int32 × oa_I2 × oa_I2) :=
  l_X4_takeWiths_4 x1 oa_fu T V 0 0
noncomputable def b_X4_takeOne_61  (x1 : Int32)  (k61 : oa_I2 → oa_I2 → Int32 → Option (Int32 × oa_I2 × oa_I2)) (T : oa_I2) (V : oa_I2) (x3 : Int32) : Option (Int32 × oa_I2 × oa_I2) :=
  if 5 < x3 then (
    oa_let (va_up V 5 (upd (V 5) 0 ((V 5 0) + 1))) fun (V29 : oa_I2) =>
    (f_X4_advance T V29).bind <| oa_u fun (y31 : Int32) (T32 : oa_I2) =>
    if y31 = 0 then (
      some (0, T32, V29))
    else (
      (f_X4_takeWiths T32 V29 x1).bind <| oa_u fun (y36 : Int32) => oa_u fun (T37 : oa_I2) (V38 : oa_I2) =>
      if y36 = 0 then (
        some (0, T37, V38))
      else (
        (f_X4_takeClosing T37 V38).bind <| oa_u fun (y42 : Int32) (T43 : oa_I2) =>
        if y42 = 0 then (
          some (0, T43, V38))
        else (
          some (1, T43, V38)))))
  else (
    (oa_rd (oa_tbv 0) (oa_tln 0) x3).bind fun (y47 : Int32) =>
    (oa_rd (oa_tbv 1) (oa_tln 1) x3).bind fun (y49 : Int32) =>
    (f_X4_takeNumber T V y47 y49).bind <| oa_u fun (y51 : Int32) (T52 : oa_I2) =>
    if y51 = 0 then (
      some (0, T52, V))
    else (
      (f_X5_putTrait V x3 x1 (T52 1 7)).bind fun (V56 : oa_I2) =>
      k61 T52 V56 (x3 + 1)))
noncomputable def l_X4_takeOne_61  (x1 : Int32)  (n : Nat) (T : oa_I2) (V : oa_I2) (x3 : Int32) : Option (Int32 × oa_I2 × oa_I2) :=
  oa_fix (fun k => oa_u fun (T : oa_I2) => oa_u fun (V : oa_I2) (x3 : Int32) => b_X4_takeOne_61 x1 (fun T V x3 => k (T, V, x3)) T V x3) n (T, V, x3)
noncomputable def f_X4_takeOne (T : oa_I2) (V : oa_I2)  : Option (Int32 × oa_I2 × oa_I2) :=
  oa_let (V 5 0) fun (y1 : Int32) =>
  if y1 < 6 then (
    (f_X4_advance T V).bind <| oa_u fun (y4 : Int32) (T5 : oa_I2) =>
    if y4 = 0 then (
      some (0, T5, V))
    else (
      (f_X4_sortNamed T5 V).bind fun (y9 : Int32) =>
      if y9 = (-4) then (
        (f_X4_misplaced T5 V).bind <| oa_u fun (y16 : Int32) (T17 : oa_I2) =>
        (oa_zc y16).bind fun (z20 : Int32) =>
        some (z20, T17, V))
      else (
        (f_X5_putTrait V 0 y1 y9).bind fun (V13 : oa_I2) =>
        l_X4_takeOne_61 y1 oa_fu T5 V13 1)))
  else (
    (f_X4_fail T V 5 (T 1 6)).bind <| oa_u fun (y22 : Int32) (T23 : oa_I2) =>
    (oa_zc y22).bind fun (z26 : Int32) =>
    some (z26, T23, V))
noncomputable def f_X4_takeRule (T : oa_I2) (V : oa_I2) (x1 : Int32) : Option (Int32 × oa_I2 × oa_I2) :=
  if (((T 1 8) >>> (x1 &&& 31)) &&& 1) = 0 then (
    oa_let (va_up T 1 (upd (T 1) 8 ((T 1 8) ||| ((1 : Int32) <<< (x1 &&& 31))))) fun (T2 : oa_I2) =>
    (oa_rd (oa_tbv 3) (oa_tln 3) x1).bind fun (y4 : Int32) =>
    (oa_rd (oa_tbv 4) (oa_tln 4) x1).bind fun (y6 : Int32) =>
    (f_X4_takeNumber T2 V y4 y6).bind <| oa_u fun (y8 : Int32) (T9 : oa_I2) =>
    if y8 = 0 then (
      some (0, T9, V))
    else (
      (oa_wr (V 0) 3 x1 (T9 1 7)).bind fun (g13 : Nat → Int32) =>
      oa_let (va_up V 0 g13) fun (V15 : oa_I2) =>
      (f_X4_advance T9 V15).bind <| oa_u fun (y17 : Int32) (T18 : oa_I2) =>
      if y17 = 0 then (
        some (0, T18, V15))
      else (
        (f_X4_takeClosing T18 V15).bind <| oa_u fun (y22 : Int32) (T23 : oa_I2) =>
        if y22 = 0 then (
          some (0, T23, V15))
        else (
          some (1, T23, V15)))))
  else (
    (f_X4_fail T V 4 (T 1 6)).bind <| oa_u fun (y27 : Int32) (T28 : oa_I2) =>
    (oa_zc y27).bind fun (z31 : Int32) =>
    some (z31, T28, V))
noncomputable def b_X5_clear_23    (k23 : oa_I2 → Int32 → Option (oa_I2)) (V : oa_I2) (x1 : Int32) : Option (oa_I2) :=
  if 6 ≤ x1 then (
    oa_let (va_up V 2 (oa_fill 6 0 (V 2))) fun (V6 : oa_I2) =>
    oa_let (va_up V6 3 (oa_fill 36 0 (V6 3))) fun (V8 : oa_I2) =>
    oa_let (va_up V8 4 (oa_fill 6 0 (V8 4))) fun (V10 : oa_I2) =>
    oa_let (va_up V10 5 (upd (V10 5) 0 0)) fun (V12 : oa_I2) =>
    oa_let (va_up V12 5 (upd (V12 5) 1 0)) fun (V14 : oa_I2) =>
    oa_let (va_up V14 5 (upd (V14 5) 2 0)) fun (V16 : oa_I2) =>
    oa_let (va_up V16 5 (upd (V16 5) 3 0)) fun (V18 : oa_I2) =>
    some (V18))
  else (
    (f_X5_putTrait V 7 x1 (-4)).bind fun (V20 : oa_I2) =>
    k23 V20 (x1 + 1))
noncomputable def l_X5_clear_23    (n : Nat) (V : oa_I2) (x1 : Int32) : Option (oa_I2) :=
  oa_fix (fun k => oa_u fun (V : oa_I2) (x1 : Int32) => b_X5_clear_23  (fun V x1 => k (V, x1)) V x1) n (V, x1)
noncomputable def f_X5_clear (V : oa_I2)  : Option (oa_I2) :=
  oa_let (va_up V 0 (va_cpy (oa_tbv 2) (V 0) 0 0 3)) fun (V1 : oa_I2) =>
  oa_let (va_up V1 1 (oa_fill 48 0 (V1 1))) fun (V3 : oa_I2) =>
  l_X5_clear_23 oa_fu V3 0
noncomputable def b_X4_tell_103    (T : oa_I2) (V : oa_I2) : Option (oa_I2 × oa_I2) :=
  oa_let (va_up T 1 (upd (T 1) 0 0)) fun (T42 : oa_I2) =>
  some (T42, V)
noncomputable def b_X4_tell_95    (T : oa_I2) (V : oa_I2) (x1 : Int32) : Option (oa_I2 × oa_I2) :=
  if x1 = 0 then (
    b_X4_tell_103 T V)
  else (
    (f_X4_checkAll T V).bind fun (T39 : oa_I2) =>
    b_X4_tell_103 T39 V)
noncomputable def b_X4_tell_34    (k34 : oa_I2 → oa_I2 → Int32 → Int32 → Option (oa_I2 × oa_I2)) (T : oa_I2) (V : oa_I2) (x1 : Int32) (x2 : Int32) : Option (oa_I2 × oa_I2) :=
  if 320 ≤ x2 then (
    b_X4_tell_95 T V x1)
  else (
    if x1 = 0 then (
      b_X4_tell_95 T V x1)
    else (
      if (T 1 5) = 0 then (
        b_X4_tell_95 T V x1)
      else (
        (f_X4_lineNamed T V).bind fun (y19 : Int32) =>
        if y19 = (-4) then (
          (f_X4_misplaced T V).bind <| oa_u fun (y34 : Int32) (T35 : oa_I2) =>
          k34 T35 V y34 (x2 + 1))
        else (
          if y19 = 3 then (
            (f_X4_takeOne T V).bind <| oa_u fun (y29 : Int32) => oa_u fun (T30 : oa_I2) (V31 : oa_I2) =>
            k34 T30 V31 y29 (x2 + 1))
          else (
            (f_X4_takeRule T V y19).bind <| oa_u fun (y24 : Int32) => oa_u fun (T25 : oa_I2) (V26 : oa_I2) =>
            k34 T25 V26 y24 (x2 + 1))))))
noncomputable def l_X4_tell_34    (n : Nat) (T : oa_I2) (V : oa_I2) (x1 : Int32) (x2 : Int32) : Option (oa_I2 × oa_I2) :=
  oa_fix (fun k => oa_u fun (T : oa_I2) => oa_u fun (V : oa_I2) => oa_u fun (x1 : Int32) (x2 : Int32) => b_X4_tell_34  (fun T V x1 x2 => k (T, V, x1, x2)) T V x1 x2) n (T, V, x1, x2)
noncomputable def f_X4_tell (T : oa_I2) (V : oa_I2)  : Option (oa_I2 × oa_I2) :=
  (f_X5_clear V).bind fun (V1 : oa_I2) =>
  oa_let (va_up T 1 (upd (T 1) 1 0)) fun (T4 : oa_I2) =>
  oa_let (va_up T4 1 (upd (T4 1) 3 0)) fun (T6 : oa_I2) =>
  oa_let (va_up T6 1 (upd (T6 1) 4 0)) fun (T8 : oa_I2) =>
  oa_let (va_up T8 1 (upd (T8 1) 8 0)) fun (T10 : oa_I2) =>
  (f_X4_advance T10 V1).bind <| oa_u fun (y12 : Int32) (T13 : oa_I2) =>
  l_X4_tell_34 oa_fu T13 V1 y12 0
noncomputable def f_X5_able (V : oa_I2) (x1 : Int32) : Option (Int32) :=
  (f_X5_free V).bind fun (y1 : Int32) =>
  (f_X5_angryWith V x1).bind fun (y4 : Int32) =>
  some (((y1 &&& (y4 ^^^ (-1))) &&& (((1 : Int32) <<< (x1 &&& 31)) ^^^ (-1))))
noncomputable def f_X5_ableAsSeen (V : oa_I2) (x1 : Int32) : Option (Int32) :=
  (f_X5_able V x1).bind fun (y1 : Int32) =>
  (f_X5_allOf V 3).bind fun (y4 : Int32) =>
  some ((y1 &&& (y4 ^^^ (-1))))
noncomputable def b_X5_allAngers_4 (V : oa_I2)   (k4 : Int32 → Int32 → Option (Int32)) (x1 : Int32) (x2 : Int32) : Option (Int32) :=
  if (V 5 0) ≤ x2 then (
    some (x1))
  else (
    (f_X5_angersOf V x2).bind fun (y2 : Int32) =>
    oa_let (x1 + y2) fun (y5 : Int32) =>
    k4 y5 (x2 + 1))
noncomputable def l_X5_allAngers_4 (V : oa_I2)   (n : Nat) (x1 : Int32) (x2 : Int32) : Option (Int32) :=
  oa_fix (fun k => oa_u fun (x1 : Int32) (x2 : Int32) => b_X5_allAngers_4 V (fun x1 x2 => k (x1, x2)) x1 x2) n (x1, x2)
noncomputable def f_X5_allAngers (V : oa_I2)  : Option (Int32) :=
  l_X5_allAngers_4 V oa_fu 0 0
noncomputable def f_X5_has (V : oa_I2) (x1 : Int32) : Option (Int32) :=
  (f_X6_within x1 0 ((V 5 0) - 1)).bind fun (y1 : Int32) =>
  (oa_zc y1).bind fun (z4 : Int32) =>
  some (z4)
noncomputable def f_X5_hasTwo (V : oa_I2) (x1 : Int32) (x2 : Int32) : Option (Int32) :=
  (f_X5_has V x1).bind fun (y1 : Int32) =>
  if y1 = 0 then (
    some (0))
  else (
    (f_X5_has V x2).bind fun (y5 : Int32) =>
    if y5 = 0 then (
      some (0))
    else (
      if x1 = x2 then (
        some (0))
      else (
        some (1))))
noncomputable def f_X5_canMeet (V : oa_I2) (x1 : Int32) (x2 : Int32) : Option (Int32) :=
  (f_X5_has V x1).bind fun (y1 : Int32) =>
  if y1 = 0 then (
    some (0))
  else (
    if x2 = 6 then (
      some (1))
    else (
      (f_X5_hasTwo V x1 x2).bind fun (y6 : Int32) =>
      if y6 = 0 then (
        some (0))
      else (
        some (1))))
noncomputable def f_X5_isFree (V : oa_I2) (x1 : Int32) : Option (Int32) :=
  (f_X5_free V).bind fun (y1 : Int32) =>
  if ((y1 >>> (x1 &&& 31)) &&& 1) = 0 then (
    some (0))
  else (
    some (1))
noncomputable def f_X5_begin (V : oa_I2) (x1 : Int32) (x2 : Int32) : Option (Int32 × oa_I2) :=
  (f_X5_canMeet V x1 x2).bind fun (y1 : Int32) =>
  if y1 = 0 then (
    some ((-1), V))
  else (
    (f_X5_isAngry V x1 x2).bind fun (y5 : Int32) =>
    if y5 = 0 then (
      (f_X5_isFree V x1).bind fun (y9 : Int32) =>
      if y9 = 0 then (
        some ((-3), V))
      else (
        (f_X5_start V x1 x2).bind fun (V13 : oa_I2) =>
        (f_X5_angersOf V13 x1).bind fun (y16 : Int32) =>
        some (y16, V13)))
    else (
      some ((-2), V)))
noncomputable def f_X5_copyOf (V : oa_I2) (U : oa_I2)  : Option (oa_I2) :=
  oa_let (va_up V 0 (va_cpy (U 0) (V 0) 0 0 3)) fun (V1 : oa_I2) =>
  oa_let (va_up V1 1 (va_cpy (U 1) (V1 1) 0 0 48)) fun (V3 : oa_I2) =>
  oa_let (va_up V3 2 (va_cpy (U 2) (V3 2) 0 0 6)) fun (V5 : oa_I2) =>
  oa_let (va_up V5 3 (va_cpy (U 3) (V5 3) 0 0 36)) fun (V7 : oa_I2) =>
  oa_let (va_up V7 4 (va_cpy (U 4) (V7 4) 0 0 6)) fun (V9 : oa_I2) =>
  oa_let (va_up V9 5 (upd (V9 5) 0 (U 5 0))) fun (V11 : oa_I2) =>
  oa_let (va_up V11 5 (upd (V11 5) 1 (U 5 1))) fun (V13 : oa_I2) =>
  oa_let (va_up V13 5 (upd (V13 5) 2 (U 5 2))) fun (V15 : oa_I2) =>
  oa_let (va_up V15 5 (upd (V15 5) 3 (U 5 3))) fun (V17 : oa_I2) =>
  some (V17)
noncomputable def b_X5_minders_5 (V : oa_I2) (x1 : Int32) (x2 : Int32)   (k5 : Int32 → Int32 → Option (Int32)) (x3 : Int32) (x4 : Int32) : Option (Int32) :=
  if (V 5 0) ≤ x4 then (
    some (x3))
  else (
    if ((x2 >>> (x4 &&& 31)) &&& 1) = 0 then (
      k5 x3 (x4 + 1))
    else (
      (f_X5_minds V x4 x1).bind fun (y3 : Int32) =>
      if y3 = 0 then (
        k5 x3 (x4 + 1))
      else (
        oa_let (x3 ||| ((1 : Int32) <<< (x4 &&& 31))) fun (y7 : Int32) =>
        k5 y7 (x4 + 1))))
noncomputable def l_X5_minders_5 (V : oa_I2) (x1 : Int32) (x2 : Int32)   (n : Nat) (x3 : Int32) (x4 : Int32) : Option (Int32) :=
  oa_fix (fun k => oa_u fun (x3 : Int32) (x4 : Int32) => b_X5_minders_5 V x1 x2 (fun x3 x4 => k (x3, x4)) x3 x4) n (x3, x4)
noncomputable def f_X5_minders (V : oa_I2) (x1 : Int32) (x2 : Int32) : Option (Int32) :=
  l_X5_minders_5 V x1 x2 oa_fu 0 0
noncomputable def b_X5_doWrong_44 (x1 : Int32) (x2 : Int32) (x3 : Int32)  (k44 : oa_I2 → Int32 → Option (oa_I2)) (V : oa_I2) (x4 : Int32) : Option (oa_I2) :=
  if (V 5 0) ≤ x4 then (
    some (V))
  else (
    if ((x3 >>> (x4 &&& 31)) &&& 1) = 0 then (
      k44 V (x4 + 1))
    else (
      (f_X5_start V x4 x1).bind fun (V27 : oa_I2) =>
      k44 V27 (x4 + 1)))
noncomputable def l_X5_doWrong_44 (x1 : Int32) (x2 : Int32) (x3 : Int32)  (n : Nat) (V : oa_I2) (x4 : Int32) : Option (oa_I2) :=
  oa_fix (fun k => oa_u fun (V : oa_I2) (x4 : Int32) => b_X5_doWrong_44 x1 x2 x3 (fun V x4 => k (V, x4)) V x4) n (V, x4)
noncomputable def f_X5_doWrong (V : oa_I2) (x1 : Int32) (x2 : Int32) : Option (oa_I2) :=
  (f_X5_able V x1).bind fun (y1 : Int32) =>
  (f_X5_minders V x2 y1).bind fun (y4 : Int32) =>
  (oa_rd (V 4) 6 x1).bind fun (y7 : Int32) =>
  (f_X5_trait V 1 x2).bind fun (y9 : Int32) =>
  (oa_wr (V 4) 6 x1 (y7 + y9)).bind fun (g12 : Nat → Int32) =>
  oa_let (va_up V 4 g12) fun (V14 : oa_I2) =>
  (oa_rd (V14 4) 6 x2).bind fun (y16 : Int32) =>
  (f_X5_trait V14 2 x2).bind fun (y18 : Int32) =>
  (oa_wr (V14 4) 6 x2 (y16 - y18)).bind fun (g21 : Nat → Int32) =>
  oa_let (va_up V14 4 g21) fun (V23 : oa_I2) =>
  l_X5_doWrong_44 x1 x2 y4 oa_fu V23 0
noncomputable def f_X5_stop (V : oa_I2) (x1 : Int32) (x2 : Int32) : Option (oa_I2) :=
  (oa_rd (V 2) 6 x1).bind fun (y1 : Int32) =>
  (oa_wr (V 2) 6 x1 (y1 &&& (((1 : Int32) <<< (x2 &&& 31)) ^^^ (-1)))).bind fun (g3 : Nat → Int32) =>
  oa_let (va_up V 2 g3) fun (V5 : oa_I2) =>
  some (V5)
noncomputable def f_X5_endOne (V : oa_I2) (x1 : Int32) (x2 : Int32) : Option (oa_I2) :=
  (f_X5_ageOf V x1 x2).bind fun (y1 : Int32) =>
  (oa_rd (V 0) 3 1).bind fun (y4 : Int32) =>
  oa_let (y4 - y1) fun (y6 : Int32) =>
  (f_X5_trait V 4 x1).bind fun (y8 : Int32) =>
  if 0 < y6 then (
    (f_X5_trait V 5 x1).bind fun (y12 : Int32) =>
    if y1 < y12 then (
      some (V))
    else (
      (f_X5_trait V 3 x1).bind fun (y16 : Int32) =>
      if (y16 * y6) ≤ y8 then (
        some (V))
      else (
        (oa_rd (V 4) 6 x2).bind fun (y20 : Int32) =>
        (oa_wr (V 4) 6 x2 (y20 - y8)).bind fun (g22 : Nat → Int32) =>
        oa_let (va_up V 4 g22) fun (V24 : oa_I2) =>
        (oa_rd (V24 4) 6 x1).bind fun (y26 : Int32) =>
        (oa_wr (V24 4) 6 x1 (y26 + y8)).bind fun (g28 : Nat → Int32) =>
        oa_let (va_up V24 4 g28) fun (V30 : oa_I2) =>
        (f_X5_stop V30 x1 x2).bind fun (V32 : oa_I2) =>
        some (V32))))
  else (
    (f_X5_stop V x1 x2).bind fun (V35 : oa_I2) =>
    some (V35))
noncomputable def b_X5_endSome_12  (x1 : Int32) (k2 : oa_I2 → Int32 → Option (oa_I2)) (k12 : oa_I2 → Int32 → Option (oa_I2)) (V : oa_I2) (x2 : Int32) : Option (oa_I2) :=
  if (V 5 0) ≤ x2 then (
    k2 V (x1 + 1))
  else (
    (f_X5_isAngry V x1 x2).bind fun (y3 : Int32) =>
    if y3 = 0 then (
      k12 V (x2 + 1))
    else (
      (f_X5_endOne V x1 x2).bind fun (V7 : oa_I2) =>
      k12 V7 (x2 + 1)))
noncomputable def l_X5_endSome_12  (x1 : Int32) (k2 : oa_I2 → Int32 → Option (oa_I2)) (n : Nat) (V : oa_I2) (x2 : Int32) : Option (oa_I2) :=
  oa_fix (fun k => oa_u fun (V : oa_I2) (x2 : Int32) => b_X5_endSome_12 x1 k2 (fun V x2 => k (V, x2)) V x2) n (V, x2)
noncomputable def b_X5_endSome_2    (k2 : oa_I2 → Int32 → Option (oa_I2)) (V : oa_I2) (x1 : Int32) : Option (oa_I2) :=
  if (V 5 0) ≤ x1 then (
    some (V))
  else (
    l_X5_endSome_12 x1 k2 oa_fu V 0)
noncomputable def l_X5_endSome_2    (n : Nat) (V : oa_I2) (x1 : Int32) : Option (oa_I2) :=
  oa_fix (fun k => oa_u fun (V : oa_I2) (x1 : Int32) => b_X5_endSome_2  (fun V x1 => k (V, x1)) V x1) n (V, x1)
noncomputable def f_X5_endSome (V : oa_I2)  : Option (oa_I2) :=
  l_X5_endSome_2 oa_fu V 0
noncomputable def b_X5_hurtAll_12  (x1 : Int32) (k2 : oa_I2 → Int32 → Option (oa_I2)) (k12 : oa_I2 → Int32 → Option (oa_I2)) (V : oa_I2) (x2 : Int32) : Option (oa_I2) :=
  if (V 5 0) ≤ x2 then (
    k2 V (x1 + 1))
  else (
    (f_X5_isAngry V x1 x2).bind fun (y3 : Int32) =>
    if y3 = 0 then (
      k12 V (x2 + 1))
    else (
      (oa_rd (V 4) 6 x2).bind fun (y7 : Int32) =>
      (f_X5_trait V 3 x1).bind fun (y9 : Int32) =>
      (oa_wr (V 4) 6 x2 (y7 - y9)).bind fun (g12 : Nat → Int32) =>
      oa_let (va_up V 4 g12) fun (V14 : oa_I2) =>
      (oa_rd (V14 3) 36 ((x1 * 6) + x2)).bind fun (y16 : Int32) =>
      (oa_wr (V14 3) 36 ((x1 * 6) + x2) (y16 + 1)).bind fun (g18 : Nat → Int32) =>
      oa_let (va_up V14 3 g18) fun (V20 : oa_I2) =>
      k12 V20 (x2 + 1)))
noncomputable def l_X5_hurtAll_12  (x1 : Int32) (k2 : oa_I2 → Int32 → Option (oa_I2)) (n : Nat) (V : oa_I2) (x2 : Int32) : Option (oa_I2) :=
  oa_fix (fun k => oa_u fun (V : oa_I2) (x2 : Int32) => b_X5_hurtAll_12 x1 k2 (fun V x2 => k (V, x2)) V x2) n (V, x2)
noncomputable def b_X5_hurtAll_2    (k2 : oa_I2 → Int32 → Option (oa_I2)) (V : oa_I2) (x1 : Int32) : Option (oa_I2) :=
  if (V 5 0) ≤ x1 then (
    some (V))
  else (
    l_X5_hurtAll_12 x1 k2 oa_fu V 0)
noncomputable def l_X5_hurtAll_2    (n : Nat) (V : oa_I2) (x1 : Int32) : Option (oa_I2) :=
  oa_fix (fun k => oa_u fun (V : oa_I2) (x1 : Int32) => b_X5_hurtAll_2  (fun V x1 => k (V, x1)) V x1) n (V, x1)
noncomputable def f_X5_hurtAll (V : oa_I2)  : Option (oa_I2) :=
  l_X5_hurtAll_2 oa_fu V 0
noncomputable def b_X5_openWrongsGuarded_60 (V : oa_I2) (x1 : Int32) (x2 : Int32)  (k5 : Int64 → Int32 → Option (Int64)) (k25 : Int64 → Int32 → Option (Int64)) (x3 : Int64) (x5 : Int32) (x6 : Int32) (x7 : Int32) (s0 : Int32) (s1 : Int32) : Option (Int64) :=
  if s0 ≤ s1 then (
    k25 x3 (x7 + 1))
  else (
    oa_let (x3 ||| ((1 : Int64) <<< (Int32.toInt64 ((6 * x5) + x7) &&& 63))) fun (y12 : Int64) =>
    k25 y12 (x7 + 1))
noncomputable def b_X5_openWrongsGuarded_25 (V : oa_I2) (x1 : Int32) (x2 : Int32) (x5 : Int32) (x6 : Int32) (k5 : Int64 → Int32 → Option (Int64)) (k25 : Int64 → Int32 → Option (Int64)) (x3 : Int64) (x7 : Int32) : Option (Int64) :=
  if (V 5 0) ≤ x7 then (
    k5 x3 (x5 + 1))
  else (
    if x7 = x5 then (
      k25 x3 (x7 + 1))
    else (
      (f_X5_value V x7 x6).bind fun (y7 : Int32) =>
      if x7 = x1 then (
        b_X5_openWrongsGuarded_60 V x1 x2 k5 k25 x3 x5 x6 x7 y7 x2)
      else (
        b_X5_openWrongsGuarded_60 V x1 x2 k5 k25 x3 x5 x6 x7 y7 0)))
noncomputable def l_X5_openWrongsGuarded_25 (V : oa_I2) (x1 : Int32) (x2 : Int32) (x5 : Int32) (x6 : Int32) (k5 : Int64 → Int32 → Option (Int64)) (n : Nat) (x3 : Int64) (x7 : Int32) : Option (Int64) :=
  oa_fix (fun k => oa_u fun (x3 : Int64) (x7 : Int32) => b_X5_openWrongsGuarded_25 V x1 x2 x5 x6 k5 (fun x3 x7 => k (x3, x7)) x3 x7) n (x3, x7)
noncomputable def b_X5_openWrongsGuarded_5 (V : oa_I2) (x1 : Int32) (x2 : Int32)   (k5 : Int64 → Int32 → Option (Int64)) (x3 : Int64) (x5 : Int32) : Option (Int64) :=
  if (V 5 0) ≤ x5 then (
    some (x3))
  else (
    (f_X5_ableAsSeen V x5).bind fun (y2 : Int32) =>
    l_X5_openWrongsGuarded_25 V x1 x2 x5 y2 k5 oa_fu x3 0)
noncomputable def l_X5_openWrongsGuarded_5 (V : oa_I2) (x1 : Int32) (x2 : Int32)   (n : Nat) (x3 : Int64) (x5 : Int32) : Option (Int64) :=
  oa_fix (fun k => oa_u fun (x3 : Int64) (x5 : Int32) => b_X5_openWrongsGuarded_5 V x1 x2 (fun x3 x5 => k (x3, x5)) x3 x5) n (x3, x5)
noncomputable def f_X5_openWrongsGuarded (V : oa_I2) (x1 : Int32) (x2 : Int32) : Option (Int64) :=
  l_X5_openWrongsGuarded_5 V x1 x2 oa_fu 0 0
noncomputable def b_X5_isSafeFor_10 (V : oa_I2) (x1 : Int32) (x2 : Int32) (x3 : Int64)  (k10 : Int32 → Option (Int32)) (x5 : Int32) : Option (Int32) :=
  if (V 5 0) ≤ x5 then (
    some (1))
  else (
    if (lg_cmp ((x3 >>> (Int32.toInt64 ((6 * x5) + x1) &&& 63)) &&& 1) 0) = 0 then (
      k10 (x5 + 1))
    else (
      some (0)))
noncomputable def l_X5_isSafeFor_10 (V : oa_I2) (x1 : Int32) (x2 : Int32) (x3 : Int64)  (n : Nat) (x5 : Int32) : Option (Int32) :=
  oa_fix (fun k => fun (x5 : Int32) => b_X5_isSafeFor_10 V x1 x2 x3 (fun x5 => k x5) x5) n x5
noncomputable def f_X5_isSafeFor (V : oa_I2) (x1 : Int32) (x2 : Int32) : Option (Int32) :=
  (f_X5_openWrongsGuarded V x1 x2).bind fun (y1 : Int64) =>
  l_X5_isSafeFor_10 V x1 x2 y1 oa_fu 0
noncomputable def b_X5_makeReady_30 (x1 : Int32)  (k2 : oa_I2 → Int32 → Option (oa_I2)) (V : oa_I2) (x2 : Int32) (s1 : Int32) (s2 : Int32) : Option (oa_I2) :=
  (oa_wr (V 2) 6 s1 s2).bind fun (g3 : Nat → Int32) =>
  oa_let (va_up V 2 g3) fun (V5 : oa_I2) =>
  k2 V5 (x2 + 1)
noncomputable def b_X5_makeReady_2 (x1 : Int32)   (k2 : oa_I2 → Int32 → Option (oa_I2)) (V : oa_I2) (x2 : Int32) : Option (oa_I2) :=
  if (V 5 0) ≤ x2 then (
    some (V))
  else (
    if ((x1 >>> (x2 &&& 31)) &&& 1) = 0 then (
      b_X5_makeReady_30 x1 k2 V x2 x2 192)
    else (
      b_X5_makeReady_30 x1 k2 V x2 x2 0))
noncomputable def l_X5_makeReady_2 (x1 : Int32)   (n : Nat) (V : oa_I2) (x2 : Int32) : Option (oa_I2) :=
  oa_fix (fun k => oa_u fun (V : oa_I2) (x2 : Int32) => b_X5_makeReady_2 x1 (fun V x2 => k (V, x2)) V x2) n (V, x2)
noncomputable def f_X5_makeReady (V : oa_I2) (x1 : Int32) : Option (oa_I2) :=
  l_X5_makeReady_2 x1 oa_fu V 0
noncomputable def f_X5_openWrongs (V : oa_I2)  : Option (Int64) :=
  (f_X5_openWrongsGuarded V (-4) 0).bind fun (y1 : Int64) =>
  some (y1)
noncomputable def b_X5_wrongAll_7    (k7 : oa_I2 → Int32 → Option (oa_I2)) (V : oa_I2) (x1 : Int32) : Option (oa_I2) :=
  if (V 5 0) ≤ x1 then (
    some (V))
  else (
    (f_X5_ableAsSeen V x1).bind fun (y4 : Int32) =>
    (f_X5_choice V x1 y4).bind fun (y7 : Int32) =>
    if y7 = (-4) then (
      k7 V (x1 + 1))
    else (
      (f_X5_doWrong V x1 y7).bind fun (V11 : oa_I2) =>
      oa_let (va_up V11 5 (upd (V11 5) 4 ((V11 5 4) ||| ((1 : Int32) <<< (x1 &&& 31))))) fun (V14 : oa_I2) =>
      oa_let (va_up V14 5 (upd (V14 5) 3 ((V14 5 3) + 1))) fun (V16 : oa_I2) =>
      (f_X5_trait V16 2 y7).bind fun (y18 : Int32) =>
      oa_let (va_up V16 5 (upd (V16 5) 2 ((V16 5 2) + y18))) fun (V21 : oa_I2) =>
      k7 V21 (x1 + 1)))
noncomputable def l_X5_wrongAll_7    (n : Nat) (V : oa_I2) (x1 : Int32) : Option (oa_I2) :=
  oa_fix (fun k => oa_u fun (V : oa_I2) (x1 : Int32) => b_X5_wrongAll_7  (fun V x1 => k (V, x1)) V x1) n (V, x1)
noncomputable def f_X5_wrongAll (V : oa_I2)  : Option (oa_I2) :=
  oa_let (va_up V 5 (upd (V 5) 4 0)) fun (V1 : oa_I2) =>
  l_X5_wrongAll_7 oa_fu V1 0
noncomputable def b_X5_passWeeks_12 (x1 : Int32) (x2 : Int32)  (k12 : oa_I2 → Int32 → Option (Int32 × oa_I2)) (V : oa_I2) (x3 : Int32) : Option (Int32 × oa_I2) :=
  if x1 ≤ x3 then (
    some (((V 5 2) - x2), V))
  else (
    (f_X5_wrongAll V).bind fun (V6 : oa_I2) =>
    (f_X5_hurtAll V6).bind fun (V9 : oa_I2) =>
    (f_X5_endSome V9).bind fun (V12 : oa_I2) =>
    oa_let (va_up V12 5 (upd (V12 5) 1 ((V12 5 1) + 1))) fun (V15 : oa_I2) =>
    k12 V15 (x3 + 1))
noncomputable def l_X5_passWeeks_12 (x1 : Int32) (x2 : Int32)  (n : Nat) (V : oa_I2) (x3 : Int32) : Option (Int32 × oa_I2) :=
  oa_fix (fun k => oa_u fun (V : oa_I2) (x3 : Int32) => b_X5_passWeeks_12 x1 x2 (fun V x3 => k (V, x3)) V x3) n (V, x3)
noncomputable def f_X5_passWeeks (V : oa_I2) (x1 : Int32) : Option (Int32 × oa_I2) :=
  oa_let (V 5 2) fun (y1 : Int32) =>
  oa_let (va_up V 5 (upd (V 5) 4 0)) fun (V3 : oa_I2) =>
  l_X5_passWeeks_12 x1 y1 oa_fu V3 0
noncomputable def b_X6_again_77 (J : oa_J2) (x1 : Int32)  (k36 : oa_I3 → Int32 → Option (Int32 × oa_I3)) (B : oa_I3) (x2 : Int32) (s1 : Int32) (s2 : Int32) : Option (Int32 × oa_I3) :=
  (f_X1_hasLike (B 11) s1 s2).bind fun (y28 : Int32) =>
  if y28 = 0 then (
    k36 B (x2 + 1))
  else (
    some (x2, B))
noncomputable def b_X6_again_36 (J : oa_J2) (x1 : Int32)   (k36 : oa_I3 → Int32 → Option (Int32 × oa_I3)) (B : oa_I3) (x2 : Int32) : Option (Int32 × oa_I3) :=
  if 99 < x2 then (
    some ((-4), B))
  else (
    (f_X5_passWeeks (B 1) 1).bind <| oa_u fun (y16 : Int32) (V17 : oa_I2) =>
    oa_let (va_up B 1 V17) fun (B20 : oa_I3) =>
    (f_X1_note (B20 11) (B20 1) x2).bind fun (P22 : oa_I2) =>
    oa_let (va_up B20 11 P22) fun (B25 : oa_I3) =>
    if x1 = 0 then (
      b_X6_again_77 J x1 k36 B25 x2 x2 1)
    else (
      b_X6_again_77 J x1 k36 B25 x2 x2 x2))
noncomputable def l_X6_again_36 (J : oa_J2) (x1 : Int32)   (n : Nat) (B : oa_I3) (x2 : Int32) : Option (Int32 × oa_I3) :=
  oa_fix (fun k => oa_u fun (B : oa_I3) (x2 : Int32) => b_X6_again_36 J x1 (fun B x2 => k (B, x2)) B x2) n (B, x2)
noncomputable def f_X6_again (B : oa_I3) (J : oa_J2) (x1 : Int32) : Option (Int32 × oa_I3) :=
  (f_X6_within x1 0 1).bind fun (y1 : Int32) =>
  if y1 = 0 then (
    some ((-1), B))
  else (
    (f_X5_copyOf (B 1) (B 0)).bind fun (V5 : oa_I2) =>
    oa_let (va_up B 1 V5) fun (B8 : oa_I3) =>
    (f_X1_note (B8 11) (B8 1) 0).bind fun (P10 : oa_I2) =>
    oa_let (va_up B8 11 P10) fun (B13 : oa_I3) =>
    l_X6_again_36 J x1 oa_fu B13 1)
noncomputable def b_X6_always_38 (J : oa_J2) (B : oa_I3) (x1 : Int64)  (k38 : Int32 → Int32 → Option (Int32 × oa_I3)) (x3 : Int32) (x4 : Int32) : Option (Int32 × oa_I3) :=
  if 6 ≤ x4 then (
    some (x3, B))
  else (
    oa_let (x3 ||| ((Int64.toInt32 (x1 >>> (Int32.toInt64 (6 * x4) &&& 63))) &&& 63)) fun (y18 : Int32) =>
    k38 y18 (x4 + 1))
noncomputable def l_X6_always_38 (J : oa_J2) (B : oa_I3) (x1 : Int64)  (n : Nat) (x3 : Int32) (x4 : Int32) : Option (Int32 × oa_I3) :=
  oa_fix (fun k => oa_u fun (x3 : Int32) (x4 : Int32) => b_X6_always_38 J B x1 (fun x3 x4 => k (x3, x4)) x3 x4) n (x3, x4)
noncomputable def f_X6_always (B : oa_I3) (J : oa_J2)  : Option (Int32 × oa_I3) :=
  (f_X5_copyOf (B 1) (B 0)).bind fun (V1 : oa_I2) =>
  oa_let (va_up B 1 V1) fun (B4 : oa_I3) =>
  (f_X5_everybody (B4 0)).bind fun (y6 : Int32) =>
  (f_X5_makeReady (B4 1) y6).bind fun (V9 : oa_I2) =>
  oa_let (va_up B4 1 V9) fun (B12 : oa_I3) =>
  (f_X5_openWrongs (B12 1)).bind fun (y14 : Int64) =>
  l_X6_always_38 J B12 y14 oa_fu 0 0
noncomputable def f_X6_back (B : oa_I3) (J : oa_J2) (x1 : Int32) : Option (Int32 × oa_I3) :=
  (f_X6_within x1 0 1).bind fun (y1 : Int32) =>
  if y1 = 0 then (
    some ((-1), B))
  else (
    (oa_rd (B 6 1) 2 x1).bind fun (y5 : Int32) =>
    if y5 = 0 then (
      some ((-2), B))
    else (
      if x1 = 0 then (
        (f_X5_copyOf (B 0) (B 3)).bind fun (V9 : oa_I2) =>
        oa_let (va_up B 0 V9) fun (B12 : oa_I3) =>
        some ((B12 0 5 1), B12))
      else (
      if x1 = 1 then (
        (f_X5_copyOf (B 0) (B 4)).bind fun (V15 : oa_I2) =>
        oa_let (va_up B 0 V15) fun (B18 : oa_I3) =>
        some ((B18 0 5 1), B18))
      else (
      none))))
noncomputable def b_X6_commonDivisor_9 (x0 : Int64) (x2 : Int64)   (k9 : Int64 → Int64 → Int32 → Option (Int64)) (x4 : Int64) (x6 : Int64) (x8 : Int32) : Option (Int64) :=
  if 100 ≤ x8 then (
    some (x4))
  else (
    if (lg_cmp x6 0) = 0 then (
      some (x4))
    else (
      if x6 = 0 then none else
      oa_let (x4 - x4 / x6 * x6) fun (y4 : Int64) =>
      k9 x6 y4 (x8 + 1)))
noncomputable def l_X6_commonDivisor_9 (x0 : Int64) (x2 : Int64)   (n : Nat) (x4 : Int64) (x6 : Int64) (x8 : Int32) : Option (Int64) :=
  oa_fix (fun k => oa_u fun (x4 : Int64) => oa_u fun (x6 : Int64) (x8 : Int32) => b_X6_commonDivisor_9 x0 x2 (fun x4 x6 x8 => k (x4, x6, x8)) x4 x6 x8) n (x4, x6, x8)
noncomputable def f_X6_commonDivisor  (x0 : Int64) (x2 : Int64) : Option (Int64) :=
  l_X6_commonDivisor_9 x0 x2 oa_fu x0 x2 0
noncomputable def b_X6_count_70 (B : oa_I3) (J : oa_J2) (x1 : Int32)   (s0 : Int32) : Option (Int32) :=
  (oa_rd (B 6 1) 2 1).bind fun (y15 : Int32) =>
  if y15 = 0 then (
    some ((s0 + 0)))
  else (
    some ((s0 + 1)))
noncomputable def f_X6_count (B : oa_I3) (J : oa_J2) (x1 : Int32) : Option (Int32) :=
  if x1 = 0 then (
    some ((B 0 5 0)))
  else (
  if x1 = 1 then (
    (f_X5_allOf (B 0) 2).bind fun (y3 : Int32) =>
    (f_J6_bitCount_0f7a4 y3).bind fun (y6 : Int32) =>
    some (y6))
  else (
  if x1 = 2 then (
    (oa_rd (B 6 1) 2 0).bind fun (y10 : Int32) =>
    if y10 = 0 then (
      b_X6_count_70 B J x1 0)
    else (
      b_X6_count_70 B J x1 1))
  else (
  if x1 = 3 then (
    some ((B 5 1 0)))
  else (
  if x1 = 4 then (
    some ((B 7 1 0)))
  else (
  some ((-1)))))))
noncomputable def f_X6_end (B : oa_I3) (J : oa_J2) (x1 : Int32) : Option (Int32 × oa_I3) :=
  (f_X4_cut (B 5) (B 2) x1).bind <| oa_u fun (y1 : Int32) (T2 : oa_I2) =>
  oa_let (va_up B 5 T2) fun (B5 : oa_I3) =>
  some (y1, B5)
noncomputable def f_X6_fault (B : oa_I3) (J : oa_J2)  : Option (Int32) :=
  some ((B 6 0 0))
noncomputable def f_X6_feed (B : oa_I3) (J : oa_J2) (x1 : Int64) : Option (Int32 × oa_I3) :=
  (f_X4_append (B 5) (B 2) x1).bind <| oa_u fun (y1 : Int32) (T2 : oa_I2) =>
  oa_let (va_up B 5 T2) fun (B5 : oa_I3) =>
  some (y1, B5)
noncomputable def b_X6_fewest_64 (J : oa_J2) (x1 : Int32)  (k31 : oa_I3 → Int32 → Int32 → Int32 → Option (Int32 × oa_I3)) (B : oa_I3) (x2 : Int32) (x3 : Int32) (x4 : Int32) (x5 : Int32) : Option (Int32 × oa_I3) :=
  (f_X5_makeReady (B 1) x4).bind fun (V17 : oa_I2) =>
  oa_let (va_up B 1 V17) fun (B20 : oa_I3) =>
  (f_X5_openWrongs (B20 1)).bind fun (y22 : Int64) =>
  if (lg_cmp y22 0) = 0 then (
    k31 B20 x5 x4 (x4 + 1))
  else (
    k31 B20 x2 x3 (x4 + 1))
noncomputable def b_X6_fewest_31 (J : oa_J2) (x1 : Int32)   (k31 : oa_I3 → Int32 → Int32 → Int32 → Option (Int32 × oa_I3)) (B : oa_I3) (x2 : Int32) (x3 : Int32) (x4 : Int32) : Option (Int32 × oa_I3) :=
  if ((1 : Int32) <<< ((B 0 5 0) &&& 31)) ≤ x4 then (
    if x1 = 0 then (
      some (x2, B))
    else (
      some (x3, B)))
  else (
    (f_J6_bitCount_0f7a4 x4).bind fun (y12 : Int32) =>
    if x2 = (-4) then (
      b_X6_fewest_64 J x1 k31 B x2 x3 x4 y12)
    else (
      if x2 ≤ y12 then (
        k31 B x2 x3 (x4 + 1))
      else (
        b_X6_fewest_64 J x1 k31 B x2 x3 x4 y12)))
noncomputable def l_X6_fewest_31 (J : oa_J2) (x1 : Int32)   (n : Nat) (B : oa_I3) (x2 : Int32) (x3 : Int32) (x4 : Int32) : Option (Int32 × oa_I3) :=
  oa_fix (fun k => oa_u fun (B : oa_I3) => oa_u fun (x2 : Int32) => oa_u fun (x3 : Int32) (x4 : Int32) => b_X6_fewest_31 J x1 (fun B x2 x3 x4 => k (B, x2, x3, x4)) B x2 x3 x4) n (B, x2, x3, x4)
noncomputable def f_X6_fewest (B : oa_I3) (J : oa_J2) (x1 : Int32) : Option (Int32 × oa_I3) :=
  (f_X6_within x1 0 1).bind fun (y1 : Int32) =>
  if y1 = 0 then (
    some ((-1), B))
  else (
    (f_X5_copyOf (B 1) (B 0)).bind fun (V5 : oa_I2) =>
    oa_let (va_up B 1 V5) fun (B8 : oa_I3) =>
    l_X6_fewest_31 J x1 oa_fu B8 (-4) (-4) 0)
noncomputable def f_X6_go (B : oa_I3) (J : oa_J2) (x1 : Int32) : Option (Int32 × oa_I3) :=
  (f_X6_within x1 1 99).bind fun (y1 : Int32) =>
  if y1 = 0 then (
    some ((-1), B))
  else (
    (f_X5_passWeeks (B 0) x1).bind <| oa_u fun (y5 : Int32) (V6 : oa_I2) =>
    oa_let (va_up B 0 V6) fun (B9 : oa_I3) =>
    some (y5, B9))
noncomputable def f_X6_got (B : oa_I3) (J : oa_J2) (x1 : Int32) : Option (Int32) :=
  (f_X5_has (B 0) x1).bind fun (y1 : Int32) =>
  if y1 = 0 then (
    some ((-1000000)))
  else (
    (oa_rd (B 0 4) 6 x1).bind fun (y5 : Int32) =>
    some (y5))
noncomputable def f_X6_hiredCost (B : oa_I3) (J : oa_J2) (x1 : Int32) : Option (Int32) :=
  (oa_rd (B 0 0) 3 1).bind fun (y1 : Int32) =>
  (f_X6_costFor x1 20 4 y1).bind fun (y3 : Int32) =>
  some (y3)
noncomputable def b_X6_hire_49 (B : oa_I3) (J : oa_J2) (x1 : Int32) (x2 : Int32) (x3 : Int32) (x4 : Int32)  (k49 : Int32 → Int32 → Int32 → Option (Int32)) (x5 : Int32) (x6 : Int32) (x7 : Int32) : Option (Int32) :=
  if (B 0 5 0) ≤ x7 then (
    if x2 = 0 then (
      some (x5))
    else (
      if x5 = (-4) then (
        some (x5))
      else (
        some (x6))))
  else (
    (f_X5_openWrongsGuarded (B 0) x7 x3).bind fun (y21 : Int64) =>
    (f_J13_bitCount_95d88 y21).bind fun (y24 : Int32) =>
    oa_let (x4 - y24) fun (y27 : Int32) =>
    if y27 ≤ x6 then (
      k49 x5 x6 (x7 + 1))
    else (
      k49 x7 y27 (x7 + 1)))
noncomputable def l_X6_hire_49 (B : oa_I3) (J : oa_J2) (x1 : Int32) (x2 : Int32) (x3 : Int32) (x4 : Int32)  (n : Nat) (x5 : Int32) (x6 : Int32) (x7 : Int32) : Option (Int32) :=
  oa_fix (fun k => oa_u fun (x5 : Int32) => oa_u fun (x6 : Int32) (x7 : Int32) => b_X6_hire_49 B J x1 x2 x3 x4 (fun x5 x6 x7 => k (x5, x6, x7)) x5 x6 x7) n (x5, x6, x7)
noncomputable def f_X6_hire (B : oa_I3) (J : oa_J2) (x1 : Int32) (x2 : Int32) : Option (Int32) :=
  (f_X6_within x1 0 99).bind fun (y1 : Int32) =>
  if y1 = 0 then (
    some ((-1)))
  else (
    (f_X6_within x2 0 1).bind fun (y5 : Int32) =>
    if y5 = 0 then (
      some ((-1)))
    else (
      (f_X6_hiredCost B J x1).bind fun (y9 : Int32) =>
      (f_X5_openWrongs (B 0)).bind fun (y12 : Int64) =>
      (f_J13_bitCount_95d88 y12).bind fun (y15 : Int32) =>
      l_X6_hire_49 B J x1 x2 y9 y15 oa_fu (-4) 0 0))
noncomputable def f_X6_inLowestTerms  (x0 : Int64) (x2 : Int64) (x4 : Int32) : Option (Int64) :=
  (f_X6_commonDivisor (if 0 < x0 then x0 else -x0) x2).bind fun (y1 : Int64) =>
  if (lg_cmp y1 0) = 0 then (
    some (0))
  else (
    if x4 = 0 then (
      if y1 = 0 then none else
      some ((x0 / y1)))
    else (
      if y1 = 0 then none else
      some ((x2 / y1))))
noncomputable def b_X6_keep_25 (J : oa_J2) (x1 : Int32)   (B : oa_I3) (s0 : Int32) : Option (Int32 × oa_I3) :=
  if x1 = 0 then (
    (f_X5_copyOf (B 3) (B 0)).bind fun (V9 : oa_I2) =>
    oa_let (va_up B 3 V9) fun (B12 : oa_I3) =>
    (oa_wr (B12 6 1) 2 x1 (vp_nar .boolean 1)).bind fun (g14 : Nat → Int32) =>
    oa_let (va_up B12 6 (va_up (B12 6) 1 g14)) fun (B16 : oa_I3) =>
    some (s0, B16))
  else (
  if x1 = 1 then (
    (f_X5_copyOf (B 4) (B 0)).bind fun (V19 : oa_I2) =>
    oa_let (va_up B 4 V19) fun (B22 : oa_I3) =>
    (oa_wr (B22 6 1) 2 x1 (vp_nar .boolean 1)).bind fun (g24 : Nat → Int32) =>
    oa_let (va_up B22 6 (va_up (B22 6) 1 g24)) fun (B26 : oa_I3) =>
    some (s0, B26))
  else (
  none))
noncomputable def f_X6_keep (B : oa_I3) (J : oa_J2) (x1 : Int32) : Option (Int32 × oa_I3) :=
  (f_X6_within x1 0 1).bind fun (y1 : Int32) =>
  if y1 = 0 then (
    some ((-1), B))
  else (
    (oa_rd (B 6 1) 2 x1).bind fun (y5 : Int32) =>
    if y5 = 0 then (
      b_X6_keep_25 J x1 B 0)
    else (
      b_X6_keep_25 J x1 B 1))
noncomputable def f_X6_lay (B : oa_I3) (J : oa_J2) (x1 : Int32) (x2 : Int32) (x3 : Int32) : Option (Int32 × oa_I3) :=
  (f_X6_within x1 0 3).bind fun (y1 : Int32) =>
  if y1 = 0 then (
    some ((-1), B))
  else (
    if x1 = 0 then (
      (f_X3_put (B 7) x2 x3).bind <| oa_u fun (y6 : Int32) (S7 : oa_I2) =>
      oa_let (va_up B 7 S7) fun (B10 : oa_I3) =>
      if y6 = 0 then (
        some (1, B10))
      else (
        some (((-10) - y6), B10)))
    else (
    if x1 = 1 then (
      (f_X3_put (B 8) x2 x3).bind <| oa_u fun (y14 : Int32) (S15 : oa_I2) =>
      oa_let (va_up B 8 S15) fun (B18 : oa_I3) =>
      if y14 = 0 then (
        some (1, B18))
      else (
        some (((-10) - y14), B18)))
    else (
    if x1 = 2 then (
      (f_X3_put (B 9) x2 x3).bind <| oa_u fun (y22 : Int32) (S23 : oa_I2) =>
      oa_let (va_up B 9 S23) fun (B26 : oa_I3) =>
      if y22 = 0 then (
        some (1, B26))
      else (
        some (((-10) - y22), B26)))
    else (
    if x1 = 3 then (
      (f_X3_put (B 10) x2 x3).bind <| oa_u fun (y30 : Int32) (S31 : oa_I2) =>
      oa_let (va_up B 10 S31) fun (B34 : oa_I3) =>
      if y30 = 0 then (
        some (1, B34))
      else (
        some (((-10) - y30), B34)))
    else (
    none)))))
noncomputable def b_X6_likeliest_33 (B : oa_I3) (x1 : Int32) (J : oa_J2)  (k33 : Int32 → Int64 → Int32 → Option (Int32 × oa_J2)) (x2 : Int32) (x3 : Int64) (x5 : Int32) : Option (Int32 × oa_J2) :=
  if (B 0 5 0) ≤ x5 then (
    some (x2, J))
  else (
    (oa_rdL (J 0) 6 x5).bind fun (y9 : Int64) =>
    if (lg_cmp y9 x3) ≤ 0 then (
      k33 x2 x3 (x5 + 1))
    else (
      (oa_rdL (J 0) 6 x5).bind fun (y12 : Int64) =>
      k33 x5 y12 (x5 + 1)))
noncomputable def l_X6_likeliest_33 (B : oa_I3) (x1 : Int32) (J : oa_J2)  (n : Nat) (x2 : Int32) (x3 : Int64) (x5 : Int32) : Option (Int32 × oa_J2) :=
  oa_fix (fun k => oa_u fun (x2 : Int32) => oa_u fun (x3 : Int64) (x5 : Int32) => b_X6_likeliest_33 B x1 J (fun x2 x3 x5 => k (x2, x3, x5)) x2 x3 x5) n (x2, x3, x5)
noncomputable def f_X6_likeliest (B : oa_I3) (J : oa_J2) (x1 : Int32) : Option (Int32 × oa_J2) :=
  (f_X5_has (B 0) x1).bind fun (y1 : Int32) =>
  if y1 = 0 then (
    some ((-1), J))
  else (
    (f_X0_weigh J (B 0) x1).bind fun (J5 : oa_J2) =>
    l_X6_likeliest_33 B x1 J5 oa_fu (-4) 0 0)
noncomputable def b_X6_mean_51 (B : oa_I3) (x1 : Int32) (x2 : Int32) (J : oa_J2) (x3 : Int32)  (k51 : Int64 → Int32 → Option (Int64 × oa_J2)) (x4 : Int64) (x6 : Int32) : Option (Int64 × oa_J2) :=
  if (B 0 5 0) ≤ x6 then (
    (f_X6_inLowestTerms x4 (J 1 0) x2).bind fun (y16 : Int64) =>
    some (y16, J))
  else (
    (oa_rdL (J 0) 6 x6).bind fun (y19 : Int64) =>
    (f_X5_value (B 0) x6 x3).bind fun (y21 : Int32) =>
    oa_let (x4 + (y19 * (Int32.toInt64 y21))) fun (y24 : Int64) =>
    k51 y24 (x6 + 1))
noncomputable def l_X6_mean_51 (B : oa_I3) (x1 : Int32) (x2 : Int32) (J : oa_J2) (x3 : Int32)  (n : Nat) (x4 : Int64) (x6 : Int32) : Option (Int64 × oa_J2) :=
  oa_fix (fun k => oa_u fun (x4 : Int64) (x6 : Int32) => b_X6_mean_51 B x1 x2 J x3 (fun x4 x6 => k (x4, x6)) x4 x6) n (x4, x6)
noncomputable def f_X6_mean (B : oa_I3) (J : oa_J2) (x1 : Int32) (x2 : Int32) : Option (Int64 × oa_J2) :=
  (f_X5_has (B 0) x1).bind fun (y1 : Int32) =>
  if y1 = 0 then (
    some ((-1000000), J))
  else (
    (f_X6_within x2 0 1).bind fun (y5 : Int32) =>
    if y5 = 0 then (
      some ((-1000000), J))
    else (
      (f_X0_weigh J (B 0) x1).bind fun (J9 : oa_J2) =>
      (f_X5_able (B 0) x1).bind fun (y12 : Int32) =>
      l_X6_mean_51 B x1 x2 J9 y12 oa_fu 0 0))
noncomputable def f_X6_now (B : oa_I3) (J : oa_J2) (x1 : Int32) : Option (Int32) :=
  if x1 = 0 then (
    some ((B 0 5 1)))
  else (
  if x1 = 1 then (
    some ((B 0 5 2)))
  else (
  if x1 = 2 then (
    some ((B 0 5 3)))
  else (
  if x1 = 3 then (
    (f_X5_free (B 0)).bind fun (y5 : Int32) =>
    some (y5))
  else (
  if x1 = 4 then (
    (f_X5_openWrongs (B 0)).bind fun (y9 : Int64) =>
    if (lg_cmp y9 0) = 0 then (
      some (1))
    else (
      some (0)))
  else (
  if x1 = 5 then (
    (f_X5_allAngers (B 0)).bind fun (y14 : Int32) =>
    some (y14))
  else (
  some ((-1))))))))
noncomputable def f_X6_odds (B : oa_I3) (J : oa_J2) (x1 : Int32) (x2 : Int32) (x3 : Int32) : Option (Int64 × oa_J2) :=
  (f_X5_hasTwo (B 0) x1 x2).bind fun (y1 : Int32) =>
  if y1 = 0 then (
    some ((-1), J))
  else (
    (f_X6_within x3 0 1).bind fun (y5 : Int32) =>
    if y5 = 0 then (
      some ((-1), J))
    else (
      (f_X0_weigh J (B 0) x1).bind fun (J9 : oa_J2) =>
      (oa_rdL (J9 0) 6 x2).bind fun (y12 : Int64) =>
      (f_X6_inLowestTerms y12 (J9 1 0) x3).bind fun (y14 : Int64) =>
      some (y14, J9)))
noncomputable def f_X6_old (B : oa_I3) (J : oa_J2) (x1 : Int32) (x2 : Int32) : Option (Int32) :=
  (f_X5_hasTwo (B 0) x1 x2).bind fun (y1 : Int32) =>
  if y1 = 0 then (
    some ((-1)))
  else (
    (f_X5_isAngry (B 0) x1 x2).bind fun (y5 : Int32) =>
    if y5 = 0 then (
      some ((-4)))
    else (
      (f_X5_ageOf (B 0) x1 x2).bind fun (y9 : Int32) =>
      some (y9)))
noncomputable def f_X6_one (B : oa_I3) (J : oa_J2) (x1 : Int32) (x2 : Int32) : Option (Int32) :=
  (f_X5_has (B 0) x1).bind fun (y1 : Int32) =>
  if y1 = 0 then (
    some ((-1)))
  else (
    (f_X6_within x2 0 10).bind fun (y5 : Int32) =>
    if y5 = 0 then (
      some ((-1)))
    else (
      if x2 = 8 then (
        (oa_rd (B 0 2) 6 x1).bind fun (y10 : Int32) =>
        some (y10))
      else (
      if x2 = 9 then (
        (f_X5_isFree (B 0) x1).bind fun (y13 : Int32) =>
        if y13 = 0 then (
          some (0))
        else (
          some (1)))
      else (
      if x2 = 10 then (
        (f_X5_costOf (B 0) x1).bind fun (y18 : Int32) =>
        some (y18))
      else (
      (f_X5_trait (B 0) x2 x1).bind fun (y21 : Int32) =>
      some (y21))))))
noncomputable def f_X6_open (B : oa_I3) (J : oa_J2)  : Option (Int64) :=
  (f_X5_openWrongs (B 0)).bind fun (y1 : Int64) =>
  some (y1)
noncomputable def b_X6_peace_13 (J : oa_J2)   (k13 : oa_I3 → Int32 → Option (Int32 × oa_I3)) (B : oa_I3) (x1 : Int32) : Option (Int32 × oa_I3) :=
  if 99 ≤ x1 then (
    some ((-4), B))
  else (
    (f_X5_passWeeks (B 1) 1).bind <| oa_u fun (y7 : Int32) (V8 : oa_I2) =>
    oa_let (va_up B 1 V8) fun (B11 : oa_I3) =>
    if (B11 1 5 4) = 0 then (
      some (x1, B11))
    else (
      k13 B11 (x1 + 1)))
noncomputable def l_X6_peace_13 (J : oa_J2)   (n : Nat) (B : oa_I3) (x1 : Int32) : Option (Int32 × oa_I3) :=
  oa_fix (fun k => oa_u fun (B : oa_I3) (x1 : Int32) => b_X6_peace_13 J (fun B x1 => k (B, x1)) B x1) n (B, x1)
noncomputable def f_X6_peace (B : oa_I3) (J : oa_J2)  : Option (Int32 × oa_I3) :=
  (f_X5_copyOf (B 1) (B 0)).bind fun (V1 : oa_I2) =>
  oa_let (va_up B 1 V1) fun (B4 : oa_I3) =>
  l_X6_peace_13 J oa_fu B4 0
noncomputable def f_X6_point (B : oa_I3) (J : oa_J2) (x1 : Int32) (x2 : Int32) : Option (Int32 × oa_I3) :=
  (f_X5_begin (B 0) x1 x2).bind <| oa_u fun (y1 : Int32) (V2 : oa_I2) =>
  oa_let (va_up B 0 V2) fun (B5 : oa_I3) =>
  some (y1, B5)
noncomputable def b_X6_price_15 (B : oa_I3) (J : oa_J2) (x1 : Int32)   (k15 : Int32 → Option (Int32)) (x2 : Int32) : Option (Int32) :=
  if 99 < x2 then (
    some ((-4)))
  else (
    (f_X6_hiredCost B J x2).bind fun (y6 : Int32) =>
    (f_X5_isSafeFor (B 0) x1 y6).bind fun (y9 : Int32) =>
    if y9 = 0 then (
      k15 (x2 + 1))
    else (
      some (x2)))
noncomputable def l_X6_price_15 (B : oa_I3) (J : oa_J2) (x1 : Int32)   (n : Nat) (x2 : Int32) : Option (Int32) :=
  oa_fix (fun k => fun (x2 : Int32) => b_X6_price_15 B J x1 (fun x2 => k x2) x2) n x2
noncomputable def f_X6_price (B : oa_I3) (J : oa_J2) (x1 : Int32) : Option (Int32) :=
  (f_X5_has (B 0) x1).bind fun (y1 : Int32) =>
  if y1 = 0 then (
    some ((-1)))
  else (
    l_X6_price_15 B J x1 oa_fu 0)
noncomputable def b_X6_read_170 (J : oa_J2) (x1 : Int32) (x2 : Int32) (x3 : Int32) (x4 : Int32)   (B : oa_I3) (x6 : Int32) (x7 : Int32) : Option (Int32 × oa_I3) :=
  (f_X5_copyOf (B 0) (B 1)).bind fun (V145 : oa_I2) =>
  oa_let (va_up B 0 V145) fun (B148 : oa_I3) =>
  oa_let (va_up B148 6 (va_up (B148 6) 0 (upd (B148 6 0) 1 x6))) fun (B150 : oa_I3) =>
  some (x7, B150)
noncomputable def b_X6_read_73_42 (J : oa_J2) (x1 : Int32) (x2 : Int32) (x3 : Int32) (x4 : Int32)   (k73 : oa_I3 → Int32 → Int32 → Int32 → Option (Int32 × oa_I3)) (B : oa_I3) (x6 : Int32) (x7 : Int32) (x8 : Int32) : Option (Int32 × oa_I3) :=
  if x4 ≤ x8 then (
    b_X6_read_170 J x1 x2 x3 x4 B x6 x7)
  else (
    if x6 = 0 then (
      oa_let ((Int32.toInt64 x3) + (2 * (Int32.toInt64 x8))) fun (y55 : Int64) =>
      (f_X3_hasCell (B 7) y55).bind fun (y57 : Int32) =>
      if y57 = 0 then (
        k73 B 2 x7 (x8 + 1))
      else (
        (f_X3_hasCell (B 7) (y55 + 1)).bind fun (y61 : Int32) =>
        if y61 = 0 then (
          k73 B 2 x7 (x8 + 1))
        else (
          (oa_rd (B 7 0) 40 (Int64.toInt32 y55)).bind fun (y65 : Int32) =>
          (oa_rd (B 7 0) 40 ((Int64.toInt32 y55) + 1)).bind fun (y67 : Int32) =>
          (f_X5_begin (B 1) y65 y67).bind <| oa_u fun (y69 : Int32) (V70 : oa_I2) =>
          oa_let (va_up B 1 V70) fun (B73 : oa_I3) =>
          if 0 ≤ y69 then (
            k73 B73 x6 (x7 + 1) (x8 + 1))
          else (
            some (((-20) - x8), B73)))))
    else (
      b_X6_read_170 J x1 x2 x3 x4 B x6 x7))
noncomputable def l_X6_read_73_42 (J : oa_J2) (x1 : Int32) (x2 : Int32) (x3 : Int32) (x4 : Int32)   (n : Nat) (B : oa_I3) (x6 : Int32) (x7 : Int32) (x8 : Int32) : Option (Int32 × oa_I3) :=
  oa_fix (fun k => oa_u fun (B : oa_I3) => oa_u fun (x6 : Int32) => oa_u fun (x7 : Int32) (x8 : Int32) => b_X6_read_73_42 J x1 x2 x3 x4 (fun B x6 x7 x8 => k (B, x6, x7, x8)) B x6 x7 x8) n (B, x6, x7, x8)
noncomputable def b_X6_read_54_42 (J : oa_J2) (x1 : Int32) (x2 : Int32) (x3 : Int32) (x4 : Int32)   (B : oa_I3) (s0 : Int32) : Option (Int32 × oa_I3) :=
  (f_X5_copyOf (B 1) (B 0)).bind fun (V33 : oa_I2) =>
  oa_let (va_up B 1 V33) fun (B36 : oa_I3) =>
  l_X6_read_73_42 J x1 x2 x3 x4 oa_fu B36 s0 0 0
noncomputable def b_X6_read_73_44 (J : oa_J2) (x1 : Int32) (x2 : Int32) (x3 : Int32) (x4 : Int32)   (k73 : oa_I3 → Int32 → Int32 → Int32 → Option (Int32 × oa_I3)) (B : oa_I3) (x6 : Int32) (x7 : Int32) (x8 : Int32) : Option (Int32 × oa_I3) :=
  if x4 ≤ x8 then (
    b_X6_read_170 J x1 x2 x3 x4 B x6 x7)
  else (
    if x6 = 0 then (
      oa_let ((Int32.toInt64 x3) + (2 * (Int32.toInt64 x8))) fun (y78 : Int64) =>
      (f_X3_hasCell (B 8) y78).bind fun (y80 : Int32) =>
      if y80 = 0 then (
        k73 B 2 x7 (x8 + 1))
      else (
        (f_X3_hasCell (B 8) (y78 + 1)).bind fun (y84 : Int32) =>
        if y84 = 0 then (
          k73 B 2 x7 (x8 + 1))
        else (
          (oa_rd (B 8 0) 40 (Int64.toInt32 y78)).bind fun (y88 : Int32) =>
          (oa_rd (B 8 0) 40 ((Int64.toInt32 y78) + 1)).bind fun (y90 : Int32) =>
          (f_X5_begin (B 1) y88 y90).bind <| oa_u fun (y92 : Int32) (V93 : oa_I2) =>
          oa_let (va_up B 1 V93) fun (B96 : oa_I3) =>
          if 0 ≤ y92 then (
            k73 B96 x6 (x7 + 1) (x8 + 1))
          else (
            some (((-20) - x8), B96)))))
    else (
      b_X6_read_170 J x1 x2 x3 x4 B x6 x7))
noncomputable def l_X6_read_73_44 (J : oa_J2) (x1 : Int32) (x2 : Int32) (x3 : Int32) (x4 : Int32)   (n : Nat) (B : oa_I3) (x6 : Int32) (x7 : Int32) (x8 : Int32) : Option (Int32 × oa_I3) :=
  oa_fix (fun k => oa_u fun (B : oa_I3) => oa_u fun (x6 : Int32) => oa_u fun (x7 : Int32) (x8 : Int32) => b_X6_read_73_44 J x1 x2 x3 x4 (fun B x6 x7 x8 => k (B, x6, x7, x8)) B x6 x7 x8) n (B, x6, x7, x8)
noncomputable def b_X6_read_54_44 (J : oa_J2) (x1 : Int32) (x2 : Int32) (x3 : Int32) (x4 : Int32)   (B : oa_I3) (s0 : Int32) : Option (Int32 × oa_I3) :=
  (f_X5_copyOf (B 1) (B 0)).bind fun (V38 : oa_I2) =>
  oa_let (va_up B 1 V38) fun (B41 : oa_I3) =>
  l_X6_read_73_44 J x1 x2 x3 x4 oa_fu B41 s0 0 0
noncomputable def b_X6_read_73_46 (J : oa_J2) (x1 : Int32) (x2 : Int32) (x3 : Int32) (x4 : Int32)   (k73 : oa_I3 → Int32 → Int32 → Int32 → Option (Int32 × oa_I3)) (B : oa_I3) (x6 : Int32) (x7 : Int32) (x8 : Int32) : Option (Int32 × oa_I3) :=
  if x4 ≤ x8 then (
    b_X6_read_170 J x1 x2 x3 x4 B x6 x7)
  else (
    if x6 = 0 then (
      oa_let ((Int32.toInt64 x3) + (2 * (Int32.toInt64 x8))) fun (y101 : Int64) =>
      (f_X3_hasCell (B 9) y101).bind fun (y103 : Int32) =>
      if y103 = 0 then (
        k73 B 2 x7 (x8 + 1))
      else (
        (f_X3_hasCell (B 9) (y101 + 1)).bind fun (y107 : Int32) =>
        if y107 = 0 then (
          k73 B 2 x7 (x8 + 1))
        else (
          (oa_rd (B 9 0) 40 (Int64.toInt32 y101)).bind fun (y111 : Int32) =>
          (oa_rd (B 9 0) 40 ((Int64.toInt32 y101) + 1)).bind fun (y113 : Int32) =>
          (f_X5_begin (B 1) y111 y113).bind <| oa_u fun (y115 : Int32) (V116 : oa_I2) =>
          oa_let (va_up B 1 V116) fun (B119 : oa_I3) =>
          if 0 ≤ y115 then (
            k73 B119 x6 (x7 + 1) (x8 + 1))
          else (
            some (((-20) - x8), B119)))))
    else (
      b_X6_read_170 J x1 x2 x3 x4 B x6 x7))
noncomputable def l_X6_read_73_46 (J : oa_J2) (x1 : Int32) (x2 : Int32) (x3 : Int32) (x4 : Int32)   (n : Nat) (B : oa_I3) (x6 : Int32) (x7 : Int32) (x8 : Int32) : Option (Int32 × oa_I3) :=
  oa_fix (fun k => oa_u fun (B : oa_I3) => oa_u fun (x6 : Int32) => oa_u fun (x7 : Int32) (x8 : Int32) => b_X6_read_73_46 J x1 x2 x3 x4 (fun B x6 x7 x8 => k (B, x6, x7, x8)) B x6 x7 x8) n (B, x6, x7, x8)
noncomputable def b_X6_read_54_46 (J : oa_J2) (x1 : Int32) (x2 : Int32) (x3 : Int32) (x4 : Int32)   (B : oa_I3) (s0 : Int32) : Option (Int32 × oa_I3) :=
  (f_X5_copyOf (B 1) (B 0)).bind fun (V43 : oa_I2) =>
  oa_let (va_up B 1 V43) fun (B46 : oa_I3) =>
  l_X6_read_73_46 J x1 x2 x3 x4 oa_fu B46 s0 0 0
noncomputable def b_X6_read_73_48 (J : oa_J2) (x1 : Int32) (x2 : Int32) (x3 : Int32) (x4 : Int32)   (k73 : oa_I3 → Int32 → Int32 → Int32 → Option (Int32 × oa_I3)) (B : oa_I3) (x6 : Int32) (x7 : Int32) (x8 : Int32) : Option (Int32 × oa_I3) :=
  if x4 ≤ x8 then (
    b_X6_read_170 J x1 x2 x3 x4 B x6 x7)
  else (
    if x6 = 0 then (
      oa_let ((Int32.toInt64 x3) + (2 * (Int32.toInt64 x8))) fun (y124 : Int64) =>
      (f_X3_hasCell (B 10) y124).bind fun (y126 : Int32) =>
      if y126 = 0 then (
        k73 B 2 x7 (x8 + 1))
      else (
        (f_X3_hasCell (B 10) (y124 + 1)).bind fun (y130 : Int32) =>
        if y130 = 0 then (
          k73 B 2 x7 (x8 + 1))
        else (
          (oa_rd (B 10 0) 40 (Int64.toInt32 y124)).bind fun (y134 : Int32) =>
          (oa_rd (B 10 0) 40 ((Int64.toInt32 y124) + 1)).bind fun (y136 : Int32) =>
          (f_X5_begin (B 1) y134 y136).bind <| oa_u fun (y138 : Int32) (V139 : oa_I2) =>
          oa_let (va_up B 1 V139) fun (B142 : oa_I3) =>
          if 0 ≤ y138 then (
            k73 B142 x6 (x7 + 1) (x8 + 1))
          else (
            some (((-20) - x8), B142)))))
    else (
      b_X6_read_170 J x1 x2 x3 x4 B x6 x7))
noncomputable def l_X6_read_73_48 (J : oa_J2) (x1 : Int32) (x2 : Int32) (x3 : Int32) (x4 : Int32)   (n : Nat) (B : oa_I3) (x6 : Int32) (x7 : Int32) (x8 : Int32) : Option (Int32 × oa_I3) :=
  oa_fix (fun k => oa_u fun (B : oa_I3) => oa_u fun (x6 : Int32) => oa_u fun (x7 : Int32) (x8 : Int32) => b_X6_read_73_48 J x1 x2 x3 x4 (fun B x6 x7 x8 => k (B, x6, x7, x8)) B x6 x7 x8) n (B, x6, x7, x8)
noncomputable def b_X6_read_54_48 (J : oa_J2) (x1 : Int32) (x2 : Int32) (x3 : Int32) (x4 : Int32)   (B : oa_I3) (s0 : Int32) : Option (Int32 × oa_I3) :=
  (f_X5_copyOf (B 1) (B 0)).bind fun (V48 : oa_I2) =>
  oa_let (va_up B 1 V48) fun (B51 : oa_I3) =>
  l_X6_read_73_48 J x1 x2 x3 x4 oa_fu B51 s0 0 0
noncomputable def f_X6_read (B : oa_I3) (J : oa_J2) (x1 : Int32) (x2 : Int32) (x3 : Int32) (x4 : Int32) : Option (Int32 × oa_I3) :=
  (f_X6_within x1 0 3).bind fun (y1 : Int32) =>
  if y1 = 0 then (
    some ((-1), B))
  else (
    (f_X6_within x2 0 2).bind fun (y5 : Int32) =>
    if y5 = 0 then (
      some ((-1), B))
    else (
      (f_X6_within x4 0 12).bind fun (y9 : Int32) =>
      if y9 = 0 then (
        some ((-1), B))
      else (
        if x1 = 0 then (
          if x4 = 0 then (
            b_X6_read_54_42 J x1 x2 x3 x4 B 0)
          else (
            (f_X3_faultAs (B 7) x2).bind fun (y15 : Int32) =>
            b_X6_read_54_42 J x1 x2 x3 x4 B y15))
        else (
        if x1 = 1 then (
          if x4 = 0 then (
            b_X6_read_54_44 J x1 x2 x3 x4 B 0)
          else (
            (f_X3_faultAs (B 8) x2).bind fun (y20 : Int32) =>
            b_X6_read_54_44 J x1 x2 x3 x4 B y20))
        else (
        if x1 = 2 then (
          if x4 = 0 then (
            b_X6_read_54_46 J x1 x2 x3 x4 B 0)
          else (
            (f_X3_faultAs (B 9) x2).bind fun (y25 : Int32) =>
            b_X6_read_54_46 J x1 x2 x3 x4 B y25))
        else (
        if x1 = 3 then (
          if x4 = 0 then (
            b_X6_read_54_48 J x1 x2 x3 x4 B 0)
          else (
            (f_X3_faultAs (B 10) x2).bind fun (y30 : Int32) =>
            b_X6_read_54_48 J x1 x2 x3 x4 B y30))
        else (
        none)))))))
noncomputable def f_X6_rest (B : oa_I3) (J : oa_J2) (x1 : Int32) (x2 : Int32) : Option (Int32 × oa_I3) :=
  (f_X5_canMeet (B 0) x1 x2).bind fun (y1 : Int32) =>
  if y1 = 0 then (
    some ((-1), B))
  else (
    (f_X5_isAngry (B 0) x1 x2).bind fun (y5 : Int32) =>
    if y5 = 0 then (
      some ((-4), B))
    else (
      (f_X5_stop (B 0) x1 x2).bind fun (V9 : oa_I2) =>
      oa_let (va_up B 0 V9) fun (B12 : oa_I3) =>
      (f_X5_angersOf (B12 0) x1).bind fun (y14 : Int32) =>
      some (y14, B12)))
noncomputable def f_X6_ring (B : oa_I3) (J : oa_J2) (x1 : Int32) : Option (Int32 × oa_I3) :=
  (f_X6_within x1 0 2).bind fun (y1 : Int32) =>
  if y1 = 0 then (
    some ((-1), B))
  else (
    (f_X2_find (B 12) (B 0)).bind fun (R5 : oa_I2) =>
    oa_let (va_up B 12 R5) fun (B8 : oa_I3) =>
    if x1 = 0 then (
      some ((B8 12 1 0), B8))
    else (
    if x1 = 1 then (
      some ((B8 12 1 1), B8))
    else (
    some ((B8 12 1 2), B8))))
noncomputable def f_X6_rule (B : oa_I3) (J : oa_J2) (x1 : Int32) : Option (Int32) :=
  (f_X6_within x1 0 2).bind fun (y1 : Int32) =>
  if y1 = 0 then (
    some ((-1)))
  else (
    (oa_rd (B 0 0) 3 x1).bind fun (y5 : Int32) =>
    some (y5))
noncomputable def b_X6_run_57 (J : oa_J2) (x1 : Int32) (x2 : Int32)   (B : oa_I3) : Option (Int32 × oa_I3) :=
  (f_X5_copyOf (B 1) (B 0)).bind fun (V18 : oa_I2) =>
  oa_let (va_up B 1 V18) fun (B21 : oa_I3) =>
  (f_X5_passWeeks (B21 1) x1).bind <| oa_u fun (y23 : Int32) (V24 : oa_I2) =>
  oa_let (va_up B21 1 V24) fun (B27 : oa_I3) =>
  if x2 = 0 then (
    some (y23, B27))
  else (
  if x2 = 1 then (
    some (((B27 1 5 3) - (B27 0 5 3)), B27))
  else (
  if x2 = 2 then (
    some ((B27 1 5 4), B27))
  else (
  if x2 = 3 then (
    (f_X5_free (B27 1)).bind fun (y33 : Int32) =>
    some (y33, B27))
  else (
  (oa_rd (B27 1 4) 6 (x2 - 10)).bind fun (y36 : Int32) =>
  (oa_rd (B27 0 4) 6 (x2 - 10)).bind fun (y38 : Int32) =>
  some ((y36 - y38), B27)))))
noncomputable def b_X6_run_30 (J : oa_J2) (x1 : Int32) (x2 : Int32)   (B : oa_I3) (s0 : Int32) : Option (Int32 × oa_I3) :=
  (f_X6_within x1 0 99).bind fun (y9 : Int32) =>
  if y9 = 0 then (
    some ((-1000000), B))
  else (
    (f_X6_within x2 0 3).bind fun (y13 : Int32) =>
    if y13 = 0 then (
      if s0 = 0 then (
        some ((-1000000), B))
      else (
        b_X6_run_57 J x1 x2 B))
    else (
      b_X6_run_57 J x1 x2 B))
noncomputable def f_X6_run (B : oa_I3) (J : oa_J2) (x1 : Int32) (x2 : Int32) : Option (Int32 × oa_I3) :=
  (f_X6_within x2 10 15).bind fun (y1 : Int32) =>
  if y1 = 0 then (
    b_X6_run_30 J x1 x2 B 0)
  else (
    (f_X5_has (B 0) (x2 - 10)).bind fun (y5 : Int32) =>
    if y5 = 0 then (
      b_X6_run_30 J x1 x2 B 0)
    else (
      b_X6_run_30 J x1 x2 B 1))
noncomputable def f_X6_set (B : oa_I3) (J : oa_J2) (x1 : Int32) (x2 : Int32) (x3 : Int32) : Option (Int32 × oa_I3) :=
  (f_X5_has (B 0) x1).bind fun (y1 : Int32) =>
  if y1 = 0 then (
    some ((-1), B))
  else (
    (f_X6_within x2 0 6).bind fun (y5 : Int32) =>
    if y5 = 0 then (
      some ((-1), B))
    else (
      (oa_rd (oa_tbv 0) (oa_tln 0) x2).bind fun (y9 : Int32) =>
      (oa_rd (oa_tbv 1) (oa_tln 1) x2).bind fun (y11 : Int32) =>
      (f_X6_within x3 y9 y11).bind fun (y13 : Int32) =>
      if y13 = 0 then (
        some ((-1), B))
      else (
        (f_X5_trait (B 0) x2 x1).bind fun (y17 : Int32) =>
        (f_X5_putTrait (B 0) x2 x1 x3).bind fun (V20 : oa_I2) =>
        oa_let (va_up B 0 V20) fun (B23 : oa_I3) =>
        some (y17, B23))))
noncomputable def f_X6_sheet (B : oa_I3) (J : oa_J2) (x1 : Int32) (x2 : Int32) (x3 : Int32) : Option (Int32 × oa_I3) :=
  (f_X6_within x1 0 3).bind fun (y1 : Int32) =>
  if y1 = 0 then (
    some ((-1), B))
  else (
    (f_X6_within x2 0 2).bind fun (y5 : Int32) =>
    if y5 = 0 then (
      some ((-1), B))
    else (
      if x3 ≤ 40 then (
        if 0 ≤ x3 then (
          if x1 = 0 then (
            (f_X3_renew (B 7) x2 x3).bind fun (S12 : oa_I2) =>
            oa_let (va_up B 7 S12) fun (B15 : oa_I3) =>
            some (1, B15))
          else (
          if x1 = 1 then (
            (f_X3_renew (B 8) x2 x3).bind fun (S18 : oa_I2) =>
            oa_let (va_up B 8 S18) fun (B21 : oa_I3) =>
            some (1, B21))
          else (
          if x1 = 2 then (
            (f_X3_renew (B 9) x2 x3).bind fun (S24 : oa_I2) =>
            oa_let (va_up B 9 S24) fun (B27 : oa_I3) =>
            some (1, B27))
          else (
          if x1 = 3 then (
            (f_X3_renew (B 10) x2 x3).bind fun (S30 : oa_I2) =>
            oa_let (va_up B 10 S30) fun (B33 : oa_I3) =>
            some (1, B33))
          else (
          none)))))
        else (
          some ((-14), B)))
      else (
        some ((-1), B))))
noncomputable def f_X6_torn (B : oa_I3) (J : oa_J2)  : Option (Int32) :=
  some ((B 6 0 1))
noncomputable def f_X6_two (B : oa_I3) (J : oa_J2) (x1 : Int32) : Option (Int32 × oa_I3) :=
  (f_X6_within x1 1 99).bind fun (y1 : Int32) =>
  if y1 = 0 then (
    some ((-1), B))
  else (
    (oa_rd (B 0 0) 3 0).bind fun (y5 : Int32) =>
    if y5 = 2 then (
      some ((-2), B))
    else (
      (f_X5_copyOf (B 1) (B 0)).bind fun (V8 : oa_I2) =>
      oa_let (va_up B 1 V8) fun (B11 : oa_I3) =>
      (f_X5_passWeeks (B11 1) x1).bind <| oa_u fun (y13 : Int32) (V14 : oa_I2) =>
      oa_let (va_up B11 1 V14) fun (B17 : oa_I3) =>
      (f_X5_copyOf (B17 1) (B17 0)).bind fun (V19 : oa_I2) =>
      oa_let (va_up B17 1 V19) fun (B22 : oa_I3) =>
      (oa_wr (B22 1 0) 3 0 2).bind fun (g24 : Nat → Int32) =>
      oa_let (va_up B22 1 (va_up (B22 1) 0 g24)) fun (B26 : oa_I3) =>
      (f_X5_passWeeks (B26 1) x1).bind <| oa_u fun (y28 : Int32) (V29 : oa_I2) =>
      oa_let (va_up B26 1 V29) fun (B32 : oa_I3) =>
      some (((y28 - y13) + 100000), B32)))
noncomputable def b_X6_village_52 (J : oa_J2)   (k52 : oa_I3 → Int32 → Option (Int32 × oa_I3)) (B : oa_I3) (x1 : Int32) : Option (Int32 × oa_I3) :=
  if 2 ≤ x1 then (
    some ((B 5 1 3), B))
  else (
    (oa_wr (B 6 1) 2 x1 (vp_nar .boolean 0)).bind fun (g16 : Nat → Int32) =>
    oa_let (va_up B 6 (va_up (B 6) 1 g16)) fun (B18 : oa_I3) =>
    k52 B18 (x1 + 1))
noncomputable def l_X6_village_52 (J : oa_J2)   (n : Nat) (B : oa_I3) (x1 : Int32) : Option (Int32 × oa_I3) :=
  oa_fix (fun k => oa_u fun (B : oa_I3) (x1 : Int32) => b_X6_village_52 J (fun B x1 => k (B, x1)) B x1) n (B, x1)
noncomputable def f_X6_village (B : oa_I3) (J : oa_J2)  : Option (Int32 × oa_I3) :=
  (f_X4_tell (B 5) (B 2)).bind <| oa_u fun (T1 : oa_I2) (V2 : oa_I2) =>
  oa_let (va_up (va_up B 5 T1) 2 V2) fun (B5 : oa_I3) =>
  oa_let (va_up B5 6 (va_up (B5 6) 0 (upd (B5 6 0) 0 (B5 5 1 1)))) fun (B7 : oa_I3) =>
  if (B7 6 0 0) = 0 then (
    (f_X5_copyOf (B7 0) (B7 2)).bind fun (V10 : oa_I2) =>
    oa_let (va_up B7 0 V10) fun (B13 : oa_I3) =>
    l_X6_village_52 J oa_fu B13 0)
  else (
    some (((-10) - (B7 5 1 2)), B7))
noncomputable def f_X6_were (B : oa_I3) (J : oa_J2) (x1 : Int32) (x2 : Int32) (x3 : Int32) : Option (Int32 × oa_I3) :=
  (f_X5_has (B 0) x1).bind fun (y1 : Int32) =>
  if y1 = 0 then (
    some ((-1), B))
  else (
    (f_X6_within x2 0 4).bind fun (y5 : Int32) =>
    if y5 = 0 then (
      some ((-1), B))
    else (
      (f_X6_within x3 1 99).bind fun (y9 : Int32) =>
      if y9 = 0 then (
        some ((-1), B))
      else (
        (f_X5_copyOf (B 1) (B 0)).bind fun (V13 : oa_I2) =>
        oa_let (va_up B 1 V13) fun (B16 : oa_I3) =>
        (f_X5_passWeeks (B16 1) x3).bind <| oa_u fun (y18 : Int32) (V19 : oa_I2) =>
        oa_let (va_up B16 1 V19) fun (B22 : oa_I3) =>
        (oa_rd (B22 1 4) 6 x1).bind fun (y24 : Int32) =>
        (f_X5_copyOf (B22 1) (B22 0)).bind fun (V26 : oa_I2) =>
        oa_let (va_up B22 1 V26) fun (B29 : oa_I3) =>
        (f_X5_putTrait (B29 1) 0 x1 x2).bind fun (V31 : oa_I2) =>
        oa_let (va_up B29 1 V31) fun (B34 : oa_I3) =>
        (f_X5_passWeeks (B34 1) x3).bind <| oa_u fun (y36 : Int32) (V37 : oa_I2) =>
        oa_let (va_up B34 1 V37) fun (B40 : oa_I3) =>
        (oa_rd (B40 1 4) 6 x1).bind fun (y42 : Int32) =>
        some (((y42 - y24) + 100000), B40))))
noncomputable def b_X6_where_31 (J : oa_J2) (x1 : Int32) (x2 : Int32)  (k31 : oa_I3 → Int32 → Int32 → Int32 → Option (Int32 × oa_I3)) (B : oa_I3) (x3 : Int32) (x4 : Int32) (x5 : Int32) : Option (Int32 × oa_I3) :=
  if (B 0 5 0) ≤ x5 then (
    if x1 = 0 then (
      some (x3, B))
    else (
      if x3 = (-4) then (
        some (x3, B))
      else (
        some (x4, B))))
  else (
    (f_X5_isFree (B 0) x5).bind fun (y14 : Int32) =>
    if y14 = 0 then (
      (f_X5_copyOf (B 1) (B 0)).bind fun (V18 : oa_I2) =>
      oa_let (va_up B 1 V18) fun (B21 : oa_I3) =>
      (oa_wr (B21 1 2) 6 x5 0).bind fun (g23 : Nat → Int32) =>
      oa_let (va_up B21 1 (va_up (B21 1) 2 g23)) fun (B25 : oa_I3) =>
      (f_X5_openWrongs (B25 1)).bind fun (y27 : Int64) =>
      (f_J13_bitCount_95d88 y27).bind fun (y30 : Int32) =>
      oa_let (x2 - y30) fun (y33 : Int32) =>
      if y33 ≤ x4 then (
        k31 B25 x3 x4 (x5 + 1))
      else (
        k31 B25 x5 y33 (x5 + 1)))
    else (
      k31 B x3 x4 (x5 + 1)))
noncomputable def l_X6_where_31 (J : oa_J2) (x1 : Int32) (x2 : Int32)  (n : Nat) (B : oa_I3) (x3 : Int32) (x4 : Int32) (x5 : Int32) : Option (Int32 × oa_I3) :=
  oa_fix (fun k => oa_u fun (B : oa_I3) => oa_u fun (x3 : Int32) => oa_u fun (x4 : Int32) (x5 : Int32) => b_X6_where_31 J x1 x2 (fun B x3 x4 x5 => k (B, x3, x4, x5)) B x3 x4 x5) n (B, x3, x4, x5)
noncomputable def f_X6_where (B : oa_I3) (J : oa_J2) (x1 : Int32) : Option (Int32 × oa_I3) :=
  (f_X6_within x1 0 1).bind fun (y1 : Int32) =>
  if y1 = 0 then (
    some ((-1), B))
  else (
    (f_X5_openWrongs (B 0)).bind fun (y5 : Int64) =>
    (f_J13_bitCount_95d88 y5).bind fun (y8 : Int32) =>
    l_X6_where_31 J x1 y8 oa_fu B (-4) 0 0)
noncomputable def f_X6_whom (B : oa_I3) (J : oa_J2) (x1 : Int32) : Option (Int32) :=
  (f_X5_has (B 0) x1).bind fun (y1 : Int32) =>
  if y1 = 0 then (
    some ((-1)))
  else (
    (f_X5_ableAsSeen (B 0) x1).bind fun (y5 : Int32) =>
    (f_X5_choice (B 0) x1 y5).bind fun (y8 : Int32) =>
    some (y8))
noncomputable def b_X6_worth_52 (B : oa_I3) (J : oa_J2) (x1 : Int32) (x2 : Int32) (x3 : Int32)   (s1 : Int32) (s2 : Int32) : Option (Int32) :=
  (f_X5_value (B 0) s1 s2).bind fun (y16 : Int32) =>
  some (y16)
noncomputable def f_X6_worth (B : oa_I3) (J : oa_J2) (x1 : Int32) (x2 : Int32) (x3 : Int32) : Option (Int32) :=
  (f_X5_hasTwo (B 0) x1 x2).bind fun (y1 : Int32) =>
  if y1 = 0 then (
    some ((-1000000)))
  else (
    (f_X6_within x3 0 1).bind fun (y5 : Int32) =>
    if y5 = 0 then (
      some ((-1000000)))
    else (
      if x3 = 0 then (
        (f_X5_ableAsSeen (B 0) x1).bind fun (y13 : Int32) =>
        b_X6_worth_52 B J x1 x2 x3 x2 y13)
      else (
        (f_X5_able (B 0) x1).bind fun (y10 : Int32) =>
        b_X6_worth_52 B J x1 x2 x3 x2 y10)))
noncomputable def f_X6_would (B : oa_I3) (J : oa_J2) (x1 : Int32) (x2 : Int32) : Option (Int32) :=
  (f_X5_hasTwo (B 0) x1 x2).bind fun (y1 : Int32) =>
  if y1 = 0 then (
    some ((-1)))
  else (
    (f_X5_able (B 0) x1).bind fun (y5 : Int32) =>
    (f_X5_minders (B 0) x2 y5).bind fun (y8 : Int32) =>
    some (y8))
noncomputable def f_X6_wrong (B : oa_I3) (J : oa_J2) (x1 : Int32) (x2 : Int32) : Option (Int32 × oa_I3) :=
  (f_X5_hasTwo (B 0) x1 x2).bind fun (y1 : Int32) =>
  if y1 = 0 then (
    some ((-1000000), B))
  else (
    (f_X5_able (B 0) x1).bind fun (y5 : Int32) =>
    (f_X5_value (B 0) x2 y5).bind fun (y8 : Int32) =>
    (f_X5_doWrong (B 0) x1 x2).bind fun (V11 : oa_I2) =>
    oa_let (va_up B 0 V11) fun (B14 : oa_I3) =>
    some (y8, B14))
noncomputable def f_X7_in  (x0 : Int64) (x2 : Int64) (x4 : Int64) : Option (Int32) :=
  if (lg_cmp x0 x2) < 0 then (
    some (0))
  else (
    if 0 < (lg_cmp x0 x4) then (
      some (0))
    else (
      some (1)))
noncomputable def b_X7_copies_2 (J : oa_J2) (x1 : Int32) (x2 : Int32)   (k2 : oa_I2 → Int32 → Option (oa_I2)) (M : oa_I2) (x3 : Int32) : Option (oa_I2) :=
  if 100 ≤ x3 then (
    some (M))
  else (
    (oa_rd (M 1) 600 (x1 + x3)).bind fun (y2 : Int32) =>
    (oa_wr (M 1) 600 (x2 + x3) y2).bind fun (g4 : Nat → Int32) =>
    oa_let (va_up M 1 g4) fun (M6 : oa_I2) =>
    k2 M6 (x3 + 1))
noncomputable def l_X7_copies_2 (J : oa_J2) (x1 : Int32) (x2 : Int32)   (n : Nat) (M : oa_I2) (x3 : Int32) : Option (oa_I2) :=
  oa_fix (fun k => oa_u fun (M : oa_I2) (x3 : Int32) => b_X7_copies_2 J x1 x2 (fun M x3 => k (M, x3)) M x3) n (M, x3)
noncomputable def f_X7_copies (M : oa_I2) (J : oa_J2) (x1 : Int32) (x2 : Int32) : Option (oa_I2) :=
  l_X7_copies_2 J x1 x2 oa_fu M 0
noncomputable def f_X7_many (M : oa_I2) (J : oa_J2)  : Option (Int32) :=
  (oa_rd (M 1) 600 99).bind fun (y1 : Int32) =>
  some (y1)
noncomputable def f_X7_age (M : oa_I2) (J : oa_J2) (x1 : Int32) (x2 : Int32) (x3 : Int32) : Option (Int32) :=
  (oa_rd (M 1) 600 (((x1 + 48) + (7 * x2)) + x3)).bind fun (y1 : Int32) =>
  some (y1)
noncomputable def b_X7_angers_5 (M : oa_I2) (J : oa_J2) (x1 : Int32) (x2 : Int32)   (k5 : Int32 → Int32 → Option (Int32)) (x3 : Int32) (x4 : Int32) : Option (Int32) :=
  if 6 < x4 then (
    some (x3))
  else (
    (f_X7_age M J x1 x2 x4).bind fun (y2 : Int32) =>
    if y2 ≤ 0 then (
      oa_let (x3 + 0) fun (y6 : Int32) =>
      k5 y6 (x4 + 1))
    else (
      oa_let (x3 + 1) fun (y8 : Int32) =>
      k5 y8 (x4 + 1)))
noncomputable def l_X7_angers_5 (M : oa_I2) (J : oa_J2) (x1 : Int32) (x2 : Int32)   (n : Nat) (x3 : Int32) (x4 : Int32) : Option (Int32) :=
  oa_fix (fun k => oa_u fun (x3 : Int32) (x4 : Int32) => b_X7_angers_5 M J x1 x2 (fun x3 x4 => k (x3, x4)) x3 x4) n (x3, x4)
noncomputable def f_X7_angers (M : oa_I2) (J : oa_J2) (x1 : Int32) (x2 : Int32) : Option (Int32) :=
  l_X7_angers_5 M J x1 x2 oa_fu 0 0
noncomputable def f_X7_isFree (M : oa_I2) (J : oa_J2) (x1 : Int32) (x2 : Int32) : Option (Int32) :=
  (f_X7_angers M J x1 x2).bind fun (y1 : Int32) =>
  (oa_rd (M 2) 3 0).bind fun (y4 : Int32) =>
  if y4 ≤ y1 then (
    some (0))
  else (
    some (1))
noncomputable def b_X7_freeOnes_4 (M : oa_I2) (J : oa_J2) (x1 : Int32)   (k4 : Int32 → Int32 → Option (Int32)) (x2 : Int32) (x3 : Int32) : Option (Int32) :=
  (f_X7_many M J).bind fun (y1 : Int32) =>
  if y1 ≤ x3 then (
    some (x2))
  else (
    (f_X7_isFree M J x1 x3).bind fun (y5 : Int32) =>
    if y5 = 0 then (
      oa_let (x2 ||| 0) fun (y9 : Int32) =>
      k4 y9 (x3 + 1))
    else (
      oa_let (x2 ||| ((1 : Int32) <<< (x3 &&& 31))) fun (y11 : Int32) =>
      k4 y11 (x3 + 1)))
noncomputable def l_X7_freeOnes_4 (M : oa_I2) (J : oa_J2) (x1 : Int32)   (n : Nat) (x2 : Int32) (x3 : Int32) : Option (Int32) :=
  oa_fix (fun k => oa_u fun (x2 : Int32) (x3 : Int32) => b_X7_freeOnes_4 M J x1 (fun x2 x3 => k (x2, x3)) x2 x3) n (x2, x3)
noncomputable def f_X7_freeOnes (M : oa_I2) (J : oa_J2) (x1 : Int32) : Option (Int32) :=
  l_X7_freeOnes_4 M J x1 oa_fu 0 0
noncomputable def b_X7_seenFree_8 (M : oa_I2) (J : oa_J2) (x1 : Int32)   (k8 : Int32 → Int32 → Option (Int32)) (x2 : Int32) (x3 : Int32) : Option (Int32) :=
  (f_X7_many M J).bind fun (y4 : Int32) =>
  if y4 ≤ x3 then (
    some (x2))
  else (
    (oa_rd (M 1) 600 ((x1 + (8 * x3)) + 0)).bind fun (y8 : Int32) =>
    if y8 = 3 then (
      oa_let (x2 &&& (((1 : Int32) <<< (x3 &&& 31)) ^^^ (-1))) fun (y13 : Int32) =>
      k8 y13 (x3 + 1))
    else (
      oa_let (x2 &&& (-1)) fun (y11 : Int32) =>
      k8 y11 (x3 + 1)))
noncomputable def l_X7_seenFree_8 (M : oa_I2) (J : oa_J2) (x1 : Int32)   (n : Nat) (x2 : Int32) (x3 : Int32) : Option (Int32) :=
  oa_fix (fun k => oa_u fun (x2 : Int32) (x3 : Int32) => b_X7_seenFree_8 M J x1 (fun x2 x3 => k (x2, x3)) x2 x3) n (x2, x3)
noncomputable def f_X7_seenFree (M : oa_I2) (J : oa_J2) (x1 : Int32) : Option (Int32) :=
  (f_X7_freeOnes M J x1).bind fun (y1 : Int32) =>
  l_X7_seenFree_8 M J x1 oa_fu y1 0
noncomputable def b_X7_minds_26 (M : oa_I2) (J : oa_J2) (x1 : Int32) (x2 : Int32) (x3 : Int32) (x4 : Int32)   (x5 : Int32) (s0 : Int32) : Option (Int32) :=
  if x2 = x3 then (
    some (0))
  else (
    (f_X7_age M J x1 x2 x3).bind fun (y5 : Int32) =>
    if y5 ≤ 0 then (
      if x5 = 0 then (
        (oa_zc s0).bind fun (z10 : Int32) =>
        some (z10))
      else (
      if x5 = 1 then (
        if s0 = 0 then (
          some (0))
        else (
          (oa_rd (M 1) 600 ((x1 + (8 * x4)) + 2)).bind fun (y14 : Int32) =>
          (oa_rd (M 1) 600 ((x1 + (8 * x2)) + 6)).bind fun (y16 : Int32) =>
          if y14 < y16 then (
            some (0))
          else (
            some (1))))
      else (
      if x5 = 2 then (
        if s0 = 0 then (
          (oa_rd (M 1) 600 ((x1 + (8 * x2)) + 7)).bind fun (y21 : Int32) =>
          if y21 = x4 then (
            some (1))
          else (
            some (0)))
        else (
          some (1)))
      else (
      if x5 = 3 then (
        (oa_zc s0).bind fun (z25 : Int32) =>
        some (z25))
      else (
      some (0))))))
    else (
      some (0)))
noncomputable def f_X7_minds (M : oa_I2) (J : oa_J2) (x1 : Int32) (x2 : Int32) (x3 : Int32) (x4 : Int32) : Option (Int32) :=
  (oa_rd (M 1) 600 ((x1 + (8 * x2)) + 0)).bind fun (y1 : Int32) =>
  if x2 = x4 then (
    b_X7_minds_26 M J x1 x2 x3 x4 y1 1)
  else (
    b_X7_minds_26 M J x1 x2 x3 x4 y1 0)
noncomputable def f_X7_lesser  (x0 : Int32) (x1 : Int32) : Option (Int32) :=
  if x1 ≤ x0 then (
    some (x1))
  else (
    some (x0))
noncomputable def f_X7_cost (M : oa_I2) (J : oa_J2) (x1 : Int32) (x2 : Int32) : Option (Int32) :=
  (oa_rd (M 1) 600 ((x1 + (8 * x2)) + 3)).bind fun (y1 : Int32) =>
  (oa_rd (M 2) 3 1).bind fun (y3 : Int32) =>
  (oa_rd (M 1) 600 ((x1 + (8 * x2)) + 5)).bind fun (y5 : Int32) =>
  (oa_rd (M 1) 600 ((x1 + (8 * x2)) + 4)).bind fun (y7 : Int32) =>
  (f_X7_lesser (y1 * y3) ((y1 * y5) + y7)).bind fun (y9 : Int32) =>
  some (y9)
noncomputable def b_X7_worthBy_18 (M : oa_I2) (J : oa_J2) (x1 : Int32) (x2 : Int32) (x3 : Int32) (x4 : Int32)   (k18 : Int32 → Int32 → Option (Int32)) (x5 : Int32) (x6 : Int32) : Option (Int32) :=
  (f_X7_many M J).bind fun (y3 : Int32) =>
  if y3 ≤ x6 then (
    some (x5))
  else (
    if ((x4 >>> (x6 &&& 31)) &&& 1) = 1 then (
      (f_X7_minds M J x1 x6 x2 x3).bind fun (y10 : Int32) =>
      if y10 = 0 then (
        oa_let (x5 - 0) fun (y14 : Int32) =>
        k18 y14 (x6 + 1))
      else (
        (f_X7_cost M J x1 x6).bind fun (y16 : Int32) =>
        oa_let (x5 - y16) fun (y19 : Int32) =>
        k18 y19 (x6 + 1)))
    else (
      oa_let (x5 - 0) fun (y8 : Int32) =>
      k18 y8 (x6 + 1)))
noncomputable def l_X7_worthBy_18 (M : oa_I2) (J : oa_J2) (x1 : Int32) (x2 : Int32) (x3 : Int32) (x4 : Int32)   (n : Nat) (x5 : Int32) (x6 : Int32) : Option (Int32) :=
  oa_fix (fun k => oa_u fun (x5 : Int32) (x6 : Int32) => b_X7_worthBy_18 M J x1 x2 x3 x4 (fun x5 x6 => k (x5, x6)) x5 x6) n (x5, x6)
noncomputable def f_X7_worthBy (M : oa_I2) (J : oa_J2) (x1 : Int32) (x2 : Int32) (x3 : Int32) (x4 : Int32) : Option (Int32) :=
  (oa_rd (M 1) 600 ((x1 + (8 * x3)) + 1)).bind fun (y1 : Int32) =>
  l_X7_worthBy_18 M J x1 x2 x3 x4 oa_fu y1 0
noncomputable def b_X7_chosen_54 (M : oa_I2) (J : oa_J2) (x1 : Int32) (x2 : Int32) (x3 : Int32)  (k10 : Int32 → Int32 → Int32 → Option (Int32)) (x5 : Int32) (x6 : Int32) (x7 : Int32) (s0 : Int32) : Option (Int32) :=
  if x7 ≤ x5 then (
    k10 s0 x5 (x6 + 1))
  else (
    k10 s0 x7 (x6 + 1))
noncomputable def b_X7_chosen_38 (M : oa_I2) (J : oa_J2) (x1 : Int32) (x2 : Int32) (x3 : Int32)  (k10 : Int32 → Int32 → Int32 → Option (Int32)) (x4 : Int32) (x5 : Int32) (x6 : Int32) (s0 : Int32) : Option (Int32) :=
  if s0 ≤ x5 then (
    b_X7_chosen_54 M J x1 x2 x3 k10 x5 x6 s0 x4)
  else (
    b_X7_chosen_54 M J x1 x2 x3 k10 x5 x6 s0 x6)
noncomputable def b_X7_chosen_10 (M : oa_I2) (J : oa_J2) (x1 : Int32) (x2 : Int32) (x3 : Int32)   (k10 : Int32 → Int32 → Int32 → Option (Int32)) (x4 : Int32) (x5 : Int32) (x6 : Int32) : Option (Int32) :=
  (f_X7_many M J).bind fun (y1 : Int32) =>
  if y1 ≤ x6 then (
    some (x4))
  else (
    if x6 = x2 then (
      b_X7_chosen_38 M J x1 x2 x3 k10 x4 x5 x6 0)
    else (
      (f_X7_worthBy M J x1 x2 x6 x3).bind fun (y6 : Int32) =>
      b_X7_chosen_38 M J x1 x2 x3 k10 x4 x5 x6 y6))
noncomputable def l_X7_chosen_10 (M : oa_I2) (J : oa_J2) (x1 : Int32) (x2 : Int32) (x3 : Int32)   (n : Nat) (x4 : Int32) (x5 : Int32) (x6 : Int32) : Option (Int32) :=
  oa_fix (fun k => oa_u fun (x4 : Int32) => oa_u fun (x5 : Int32) (x6 : Int32) => b_X7_chosen_10 M J x1 x2 x3 (fun x4 x5 x6 => k (x4, x5, x6)) x4 x5 x6) n (x4, x5, x6)
noncomputable def f_X7_chosen (M : oa_I2) (J : oa_J2) (x1 : Int32) (x2 : Int32) (x3 : Int32) : Option (Int32) :=
  l_X7_chosen_10 M J x1 x2 x3 oa_fu (-4) 0 0
noncomputable def b_X7_wouldOf_6 (M : oa_I2) (J : oa_J2) (x1 : Int32) (x2 : Int32) (x3 : Int32)   (k6 : Int32 → Int32 → Option (Int32)) (x4 : Int32) (x5 : Int32) : Option (Int32) :=
  (f_X7_many M J).bind fun (y1 : Int32) =>
  if y1 ≤ x5 then (
    some (x4))
  else (
    (f_X7_isFree M J x1 x5).bind fun (y5 : Int32) =>
    if y5 = 0 then (
      oa_let (x4 ||| 0) fun (y9 : Int32) =>
      k6 y9 (x5 + 1))
    else (
      (f_X7_minds M J x1 x5 x2 x3).bind fun (y11 : Int32) =>
      if y11 = 0 then (
        oa_let (x4 ||| 0) fun (y15 : Int32) =>
        k6 y15 (x5 + 1))
      else (
        oa_let (x4 ||| ((1 : Int32) <<< (x5 &&& 31))) fun (y17 : Int32) =>
        k6 y17 (x5 + 1))))
noncomputable def l_X7_wouldOf_6 (M : oa_I2) (J : oa_J2) (x1 : Int32) (x2 : Int32) (x3 : Int32)   (n : Nat) (x4 : Int32) (x5 : Int32) : Option (Int32) :=
  oa_fix (fun k => oa_u fun (x4 : Int32) (x5 : Int32) => b_X7_wouldOf_6 M J x1 x2 x3 (fun x4 x5 => k (x4, x5)) x4 x5) n (x4, x5)
noncomputable def f_X7_wouldOf (M : oa_I2) (J : oa_J2) (x1 : Int32) (x2 : Int32) (x3 : Int32) : Option (Int32) :=
  l_X7_wouldOf_6 M J x1 x2 x3 oa_fu 0 0
noncomputable def b_X7_wrongs_66 (J : oa_J2) (x1 : Int32) (x2 : Int32) (x3 : Int32) (x4 : Int32)  (k66 : oa_I2 → Int32 → Option (oa_I2)) (M : oa_I2) (x5 : Int32) : Option (oa_I2) :=
  (f_X7_many M J).bind fun (y20 : Int32) =>
  if y20 ≤ x5 then (
    some (M))
  else (
    if ((x4 >>> (x5 &&& 31)) &&& 1) = 1 then (
      (oa_wr (M 1) 600 (((x1 + 48) + (7 * x5)) + x2) 1).bind fun (g25 : Nat → Int32) =>
      oa_let (va_up M 1 g25) fun (M27 : oa_I2) =>
      k66 M27 (x5 + 1))
    else (
      k66 M (x5 + 1)))
noncomputable def l_X7_wrongs_66 (J : oa_J2) (x1 : Int32) (x2 : Int32) (x3 : Int32) (x4 : Int32)  (n : Nat) (M : oa_I2) (x5 : Int32) : Option (oa_I2) :=
  oa_fix (fun k => oa_u fun (M : oa_I2) (x5 : Int32) => b_X7_wrongs_66 J x1 x2 x3 x4 (fun M x5 => k (M, x5)) M x5) n (M, x5)
noncomputable def f_X7_wrongs (M : oa_I2) (J : oa_J2) (x1 : Int32) (x2 : Int32) (x3 : Int32) : Option (oa_I2) :=
  (f_X7_wouldOf M J x1 x2 x3).bind fun (y1 : Int32) =>
  (oa_rd (M 1) 600 ((x1 + 90) + x2)).bind fun (y4 : Int32) =>
  (oa_rd (M 1) 600 ((x1 + (8 * x3)) + 1)).bind fun (y6 : Int32) =>
  (oa_wr (M 1) 600 ((x1 + 90) + x2) (y4 + y6)).bind fun (g8 : Nat → Int32) =>
  oa_let (va_up M 1 g8) fun (M10 : oa_I2) =>
  (oa_rd (M10 1) 600 ((x1 + 90) + x3)).bind fun (y12 : Int32) =>
  (oa_rd (M10 1) 600 ((x1 + (8 * x3)) + 2)).bind fun (y14 : Int32) =>
  (oa_wr (M10 1) 600 ((x1 + 90) + x3) (y12 - y14)).bind fun (g16 : Nat → Int32) =>
  oa_let (va_up M10 1 g16) fun (M18 : oa_I2) =>
  l_X7_wrongs_66 J x1 x2 x3 y1 oa_fu M18 0
noncomputable def b_X7_makesUp_202 (J : oa_J2) (x1 : Int32)  (k2 : oa_I2 → Int32 → Option (oa_I2)) (k12 : oa_I2 → Int32 → Option (oa_I2)) (M : oa_I2) (x2 : Int32) (x3 : Int32) (s1 : Int32) (s2 : Int32) (s3 : Int32) : Option (oa_I2) :=
  (oa_wr (M 1) 600 s1 (s2 + s3)).bind fun (g45 : Nat → Int32) =>
  oa_let (va_up M 1 g45) fun (M47 : oa_I2) =>
  k12 M47 (x3 + 1)
noncomputable def b_X7_makesUp_177 (J : oa_J2) (x1 : Int32)  (k2 : oa_I2 → Int32 → Option (oa_I2)) (k12 : oa_I2 → Int32 → Option (oa_I2)) (M : oa_I2) (x2 : Int32) (x3 : Int32) (x5 : Int32) (x7 : Int32) (s1 : Int32) (s2 : Int32) (s3 : Int32) : Option (oa_I2) :=
  (oa_wr (M 1) 600 s1 (s2 - s3)).bind fun (g38 : Nat → Int32) =>
  oa_let (va_up M 1 g38) fun (M40 : oa_I2) =>
  (oa_rd (M40 1) 600 ((x1 + 90) + x2)).bind fun (y42 : Int32) =>
  if x7 = 0 then (
    b_X7_makesUp_202 J x1 k2 k12 M40 x2 x3 ((x1 + 90) + x2) y42 0)
  else (
    b_X7_makesUp_202 J x1 k2 k12 M40 x2 x3 ((x1 + 90) + x2) y42 x5)
noncomputable def b_X7_makesUp_137 (J : oa_J2) (x1 : Int32)  (k2 : oa_I2 → Int32 → Option (oa_I2)) (k12 : oa_I2 → Int32 → Option (oa_I2)) (M : oa_I2) (x2 : Int32) (x3 : Int32) (x5 : Int32) (x7 : Int32) : Option (oa_I2) :=
  (oa_wr (M 1) 600 (((x1 + 48) + (7 * x2)) + x3) 0).bind fun (g31 : Nat → Int32) =>
  oa_let (va_up M 1 g31) fun (M33 : oa_I2) =>
  (oa_rd (M33 1) 600 ((x1 + 90) + x3)).bind fun (y35 : Int32) =>
  if x7 = 0 then (
    b_X7_makesUp_177 J x1 k2 k12 M33 x2 x3 x5 x7 ((x1 + 90) + x3) y35 0)
  else (
    b_X7_makesUp_177 J x1 k2 k12 M33 x2 x3 x5 x7 ((x1 + 90) + x3) y35 x5)
noncomputable def b_X7_makesUp_120 (J : oa_J2) (x1 : Int32)  (k2 : oa_I2 → Int32 → Option (oa_I2)) (k12 : oa_I2 → Int32 → Option (oa_I2)) (M : oa_I2) (x2 : Int32) (x3 : Int32) (x4 : Int32) (x5 : Int32) (x6 : Int32) (s0 : Int32) : Option (oa_I2) :=
  if x4 < 0 then (
    k12 M (x3 + 1))
  else (
    if x6 = 0 then (
      if s0 = 0 then (
        k12 M (x3 + 1))
      else (
        b_X7_makesUp_137 J x1 k2 k12 M x2 x3 x5 s0))
    else (
      b_X7_makesUp_137 J x1 k2 k12 M x2 x3 x5 s0))
noncomputable def b_X7_makesUp_62 (J : oa_J2) (x1 : Int32)  (k2 : oa_I2 → Int32 → Option (oa_I2)) (k12 : oa_I2 → Int32 → Option (oa_I2)) (M : oa_I2) (x2 : Int32) (x3 : Int32) (x4 : Int32) (x5 : Int32) (s0 : Int32) : Option (oa_I2) :=
  if s0 = 0 then (
    (oa_rd (M 1) 600 ((x1 + (8 * x2)) + 5)).bind fun (y20 : Int32) =>
    if x4 < y20 then (
      b_X7_makesUp_120 J x1 k2 k12 M x2 x3 x4 x5 s0 0)
    else (
      (oa_rd (M 1) 600 ((x1 + (8 * x2)) + 3)).bind fun (y23 : Int32) =>
      (oa_rd (M 2) 3 1).bind fun (y25 : Int32) =>
      if (y23 * (y25 - x4)) ≤ x5 then (
        b_X7_makesUp_120 J x1 k2 k12 M x2 x3 x4 x5 s0 0)
      else (
        b_X7_makesUp_120 J x1 k2 k12 M x2 x3 x4 x5 s0 1)))
  else (
    b_X7_makesUp_120 J x1 k2 k12 M x2 x3 x4 x5 s0 0)
noncomputable def b_X7_makesUp_12 (J : oa_J2) (x1 : Int32) (x2 : Int32) (k2 : oa_I2 → Int32 → Option (oa_I2)) (k12 : oa_I2 → Int32 → Option (oa_I2)) (M : oa_I2) (x3 : Int32) : Option (oa_I2) :=
  (f_X7_many M J).bind fun (y5 : Int32) =>
  if y5 ≤ x3 then (
    k2 M (x2 + 1))
  else (
    (f_X7_age M J x1 x2 x3).bind fun (y9 : Int32) =>
    oa_let (y9 - 1) fun (y12 : Int32) =>
    (oa_rd (M 1) 600 ((x1 + (8 * x2)) + 4)).bind fun (y14 : Int32) =>
    (oa_rd (M 2) 3 1).bind fun (y16 : Int32) =>
    if y12 < y16 then (
      b_X7_makesUp_62 J x1 k2 k12 M x2 x3 y12 y14 0)
    else (
      b_X7_makesUp_62 J x1 k2 k12 M x2 x3 y12 y14 1))
noncomputable def l_X7_makesUp_12 (J : oa_J2) (x1 : Int32) (x2 : Int32) (k2 : oa_I2 → Int32 → Option (oa_I2)) (n : Nat) (M : oa_I2) (x3 : Int32) : Option (oa_I2) :=
  oa_fix (fun k => oa_u fun (M : oa_I2) (x3 : Int32) => b_X7_makesUp_12 J x1 x2 k2 (fun M x3 => k (M, x3)) M x3) n (M, x3)
noncomputable def b_X7_makesUp_2 (J : oa_J2) (x1 : Int32)   (k2 : oa_I2 → Int32 → Option (oa_I2)) (M : oa_I2) (x2 : Int32) : Option (oa_I2) :=
  (f_X7_many M J).bind fun (y1 : Int32) =>
  if y1 ≤ x2 then (
    some (M))
  else (
    l_X7_makesUp_12 J x1 x2 k2 oa_fu M 0)
noncomputable def l_X7_makesUp_2 (J : oa_J2) (x1 : Int32)   (n : Nat) (M : oa_I2) (x2 : Int32) : Option (oa_I2) :=
  oa_fix (fun k => oa_u fun (M : oa_I2) (x2 : Int32) => b_X7_makesUp_2 J x1 (fun M x2 => k (M, x2)) M x2) n (M, x2)
noncomputable def f_X7_makesUp (M : oa_I2) (J : oa_J2) (x1 : Int32) : Option (oa_I2) :=
  l_X7_makesUp_2 J x1 oa_fu M 0
noncomputable def b_X7_week_108 (J : oa_J2) (x1 : Int32) (x2 : Int32) (k98 : oa_I2 → Int32 → Option (oa_I2)) (k108 : oa_I2 → Int32 → Option (oa_I2)) (M : oa_I2) (x3 : Int32) : Option (oa_I2) :=
  (f_X7_many M J).bind fun (y46 : Int32) =>
  if y46 ≤ x3 then (
    k98 M (x2 + 1))
  else (
    (f_X7_age M J x1 x2 x3).bind fun (y50 : Int32) =>
    if y50 ≤ 0 then (
      k108 M (x3 + 1))
    else (
      (oa_rd (M 1) 600 ((x1 + 90) + x3)).bind fun (y54 : Int32) =>
      (oa_rd (M 1) 600 ((x1 + (8 * x2)) + 3)).bind fun (y56 : Int32) =>
      (oa_wr (M 1) 600 ((x1 + 90) + x3) (y54 - y56)).bind fun (g58 : Nat → Int32) =>
      oa_let (va_up M 1 g58) fun (M60 : oa_I2) =>
      (oa_rd (M60 1) 600 (((x1 + 48) + (7 * x2)) + x3)).bind fun (y62 : Int32) =>
      (oa_wr (M60 1) 600 (((x1 + 48) + (7 * x2)) + x3) (y62 + 1)).bind fun (g64 : Nat → Int32) =>
      oa_let (va_up M60 1 g64) fun (M66 : oa_I2) =>
      k108 M66 (x3 + 1)))
noncomputable def l_X7_week_108 (J : oa_J2) (x1 : Int32) (x2 : Int32) (k98 : oa_I2 → Int32 → Option (oa_I2)) (n : Nat) (M : oa_I2) (x3 : Int32) : Option (oa_I2) :=
  oa_fix (fun k => oa_u fun (M : oa_I2) (x3 : Int32) => b_X7_week_108 J x1 x2 k98 (fun M x3 => k (M, x3)) M x3) n (M, x3)
noncomputable def b_X7_week_98 (J : oa_J2) (x1 : Int32)   (k98 : oa_I2 → Int32 → Option (oa_I2)) (M : oa_I2) (x2 : Int32) : Option (oa_I2) :=
  (f_X7_many M J).bind fun (y33 : Int32) =>
  if y33 ≤ x2 then (
    (f_X7_makesUp M J x1).bind fun (M37 : oa_I2) =>
    (oa_rd (M37 1) 600 (x1 + 96)).bind fun (y40 : Int32) =>
    (oa_wr (M37 1) 600 (x1 + 96) (y40 + 1)).bind fun (g42 : Nat → Int32) =>
    oa_let (va_up M37 1 g42) fun (M44 : oa_I2) =>
    some (M44))
  else (
    l_X7_week_108 J x1 x2 k98 oa_fu M 0)
noncomputable def l_X7_week_98 (J : oa_J2) (x1 : Int32)   (n : Nat) (M : oa_I2) (x2 : Int32) : Option (oa_I2) :=
  oa_fix (fun k => oa_u fun (M : oa_I2) (x2 : Int32) => b_X7_week_98 J x1 (fun M x2 => k (M, x2)) M x2) n (M, x2)
noncomputable def b_X7_week_7 (J : oa_J2) (x1 : Int32)   (k7 : oa_I2 → Int32 → Option (oa_I2)) (M : oa_I2) (x2 : Int32) : Option (oa_I2) :=
  (f_X7_many M J).bind fun (y3 : Int32) =>
  if y3 ≤ x2 then (
    l_X7_week_98 J x1 oa_fu M 0)
  else (
    (f_X7_seenFree M J x1).bind fun (y7 : Int32) =>
    (f_X7_chosen M J x1 x2 y7).bind fun (y10 : Int32) =>
    if y10 = (-4) then (
      k7 M (x2 + 1))
    else (
      (f_X7_wrongs M J x1 x2 y10).bind fun (M14 : oa_I2) =>
      (oa_rd (M14 1) 600 (x1 + 97)).bind fun (y17 : Int32) =>
      (oa_rd (M14 1) 600 ((x1 + (8 * y10)) + 2)).bind fun (y19 : Int32) =>
      (oa_wr (M14 1) 600 (x1 + 97) (y17 + y19)).bind fun (g21 : Nat → Int32) =>
      oa_let (va_up M14 1 g21) fun (M23 : oa_I2) =>
      (oa_rd (M23 1) 600 (x1 + 98)).bind fun (y25 : Int32) =>
      (oa_wr (M23 1) 600 (x1 + 98) (y25 + 1)).bind fun (g27 : Nat → Int32) =>
      oa_let (va_up M23 1 g27) fun (M29 : oa_I2) =>
      oa_let (va_up M29 0 (upd (M29 0) 9 ((M29 0 9) ||| ((1 : Int32) <<< (x2 &&& 31))))) fun (M31 : oa_I2) =>
      k7 M31 (x2 + 1)))
noncomputable def l_X7_week_7 (J : oa_J2) (x1 : Int32)   (n : Nat) (M : oa_I2) (x2 : Int32) : Option (oa_I2) :=
  oa_fix (fun k => oa_u fun (M : oa_I2) (x2 : Int32) => b_X7_week_7 J x1 (fun M x2 => k (M, x2)) M x2) n (M, x2)
noncomputable def f_X7_week (M : oa_I2) (J : oa_J2) (x1 : Int32) : Option (oa_I2) :=
  oa_let (va_up M 0 (upd (M 0) 9 0)) fun (M1 : oa_I2) =>
  l_X7_week_7 J x1 oa_fu M1 0
noncomputable def b_X7_tries_58 (J : oa_J2) (x1 : Int32)   (k58 : oa_I2 → Int32 → Option (oa_I2)) (M : oa_I2) (x2 : Int32) : Option (oa_I2) :=
  if x1 ≤ x2 then (
    some (M))
  else (
    (f_X7_week M J 360).bind fun (M20 : oa_I2) =>
    k58 M20 (x2 + 1))
noncomputable def l_X7_tries_58 (J : oa_J2) (x1 : Int32)   (n : Nat) (M : oa_I2) (x2 : Int32) : Option (oa_I2) :=
  oa_fix (fun k => oa_u fun (M : oa_I2) (x2 : Int32) => b_X7_tries_58 J x1 (fun M x2 => k (M, x2)) M x2) n (M, x2)
noncomputable def b_X7_tries_33 (J : oa_J2) (x1 : Int32)   (k33 : oa_I2 → Int32 → Option (oa_I2)) (M : oa_I2) (x2 : Int32) : Option (oa_I2) :=
  if 6 ≤ x2 then (
    l_X7_tries_58 J x1 oa_fu M 0)
  else (
    (oa_wr (M 1) 600 (450 + x2) 0).bind fun (g15 : Nat → Int32) =>
    oa_let (va_up M 1 g15) fun (M17 : oa_I2) =>
    k33 M17 (x2 + 1))
noncomputable def l_X7_tries_33 (J : oa_J2) (x1 : Int32)   (n : Nat) (M : oa_I2) (x2 : Int32) : Option (oa_I2) :=
  oa_fix (fun k => oa_u fun (M : oa_I2) (x2 : Int32) => b_X7_tries_33 J x1 (fun M x2 => k (M, x2)) M x2) n (M, x2)
noncomputable def f_X7_tries (M : oa_I2) (J : oa_J2) (x1 : Int32) : Option (oa_I2) :=
  (f_X7_copies M J 0 360).bind fun (M1 : oa_I2) =>
  (oa_wr (M1 1) 600 457 0).bind fun (g4 : Nat → Int32) =>
  oa_let (va_up M1 1 g4) fun (M6 : oa_I2) =>
  (oa_wr (M6 1) 600 458 0).bind fun (g8 : Nat → Int32) =>
  oa_let (va_up M6 1 g8) fun (M10 : oa_I2) =>
  oa_let (va_up M10 0 (upd (M10 0) 9 0)) fun (M12 : oa_I2) =>
  l_X7_tries_33 J x1 oa_fu M12 0
noncomputable def b_X7_notes_2 (J : oa_J2) (x1 : Int32) (x2 : Int32)   (k2 : oa_I2 → Int32 → Option (oa_I2)) (M : oa_I2) (x3 : Int32) : Option (oa_I2) :=
  if 42 ≤ x3 then (
    some (M))
  else (
    (oa_rd (M 1) 600 ((x1 + 48) + x3)).bind fun (y2 : Int32) =>
    (oa_wr (M 8) 4200 ((42 * x2) + x3) y2).bind fun (g4 : Nat → Int32) =>
    oa_let (va_up M 8 g4) fun (M6 : oa_I2) =>
    k2 M6 (x3 + 1))
noncomputable def l_X7_notes_2 (J : oa_J2) (x1 : Int32) (x2 : Int32)   (n : Nat) (M : oa_I2) (x3 : Int32) : Option (oa_I2) :=
  oa_fix (fun k => oa_u fun (M : oa_I2) (x3 : Int32) => b_X7_notes_2 J x1 x2 (fun M x3 => k (M, x3)) M x3) n (M, x3)
noncomputable def f_X7_notes (M : oa_I2) (J : oa_J2) (x1 : Int32) (x2 : Int32) : Option (oa_I2) :=
  l_X7_notes_2 J x1 x2 oa_fu M 0
noncomputable def b_X7_isSame_5 (M : oa_I2) (J : oa_J2) (x1 : Int32) (x2 : Int32)   (k5 : Int32 → Int32 → Option (Int32)) (x3 : Int32) (x4 : Int32) : Option (Int32) :=
  if 42 ≤ x4 then (
    (oa_zc x3).bind fun (z2 : Int32) =>
    some (z2))
  else (
    if x3 = 0 then (
      (oa_zc x3).bind fun (z5 : Int32) =>
      some (z5))
    else (
      (oa_rd (M 8) 4200 ((42 * x1) + x4)).bind fun (y7 : Int32) =>
      (oa_rd (M 8) 4200 ((42 * x2) + x4)).bind fun (y9 : Int32) =>
      if y7 = y9 then (
        k5 1 (x4 + 1))
      else (
        k5 0 (x4 + 1))))
noncomputable def l_X7_isSame_5 (M : oa_I2) (J : oa_J2) (x1 : Int32) (x2 : Int32)   (n : Nat) (x3 : Int32) (x4 : Int32) : Option (Int32) :=
  oa_fix (fun k => oa_u fun (x3 : Int32) (x4 : Int32) => b_X7_isSame_5 M J x1 x2 (fun x3 x4 => k (x3, x4)) x3 x4) n (x3, x4)
noncomputable def f_X7_isSame (M : oa_I2) (J : oa_J2) (x1 : Int32) (x2 : Int32) : Option (Int32) :=
  l_X7_isSame_5 M J x1 x2 oa_fu 1 0
noncomputable def b_X7_again_60 (J : oa_J2) (x1 : Int32)  (k27 : oa_I2 → Int32 → Option (Int32 × oa_I2)) (k50 : Int32 → Option (Int32 × oa_I2)) (M : oa_I2) (x2 : Int32) (x3 : Int32) (s0 : Int32) (s1 : Int32) : Option (Int32 × oa_I2) :=
  if s1 ≤ s0 then (
    k27 M (x2 + 1))
  else (
    (f_X7_isSame M J x3 x2).bind fun (y20 : Int32) =>
    if y20 = 0 then (
      k50 (x3 + 1))
    else (
      some (x2, M)))
noncomputable def b_X7_again_50 (J : oa_J2) (x1 : Int32) (M : oa_I2) (x2 : Int32) (k27 : oa_I2 → Int32 → Option (Int32 × oa_I2)) (k50 : Int32 → Option (Int32 × oa_I2)) (x3 : Int32) : Option (Int32 × oa_I2) :=
  if x1 = 0 then (
    b_X7_again_60 J x1 k27 k50 M x2 x3 x3 1)
  else (
    b_X7_again_60 J x1 k27 k50 M x2 x3 x3 x2)
noncomputable def l_X7_again_50 (J : oa_J2) (x1 : Int32) (M : oa_I2) (x2 : Int32) (k27 : oa_I2 → Int32 → Option (Int32 × oa_I2)) (n : Nat) (x3 : Int32) : Option (Int32 × oa_I2) :=
  oa_fix (fun k => fun (x3 : Int32) => b_X7_again_50 J x1 M x2 k27 (fun x3 => k x3) x3) n x3
noncomputable def b_X7_again_27 (J : oa_J2) (x1 : Int32)   (k27 : oa_I2 → Int32 → Option (Int32 × oa_I2)) (M : oa_I2) (x2 : Int32) : Option (Int32 × oa_I2) :=
  if 99 < x2 then (
    some ((-4), M))
  else (
    (f_X7_week M J 360).bind fun (M12 : oa_I2) =>
    (f_X7_notes M12 J 360 x2).bind fun (M15 : oa_I2) =>
    l_X7_again_50 J x1 M15 x2 k27 oa_fu 0)
noncomputable def l_X7_again_27 (J : oa_J2) (x1 : Int32)   (n : Nat) (M : oa_I2) (x2 : Int32) : Option (Int32 × oa_I2) :=
  oa_fix (fun k => oa_u fun (M : oa_I2) (x2 : Int32) => b_X7_again_27 J x1 (fun M x2 => k (M, x2)) M x2) n (M, x2)
noncomputable def f_X7_again (M : oa_I2) (J : oa_J2) (x1 : Int32) : Option (Int32 × oa_I2) :=
  (f_X7_in (Int32.toInt64 x1) 0 1).bind fun (y1 : Int32) =>
  if y1 = 0 then (
    some ((-1), M))
  else (
    (f_X7_tries M J 0).bind fun (M5 : oa_I2) =>
    (f_X7_notes M5 J 360 0).bind fun (M8 : oa_I2) =>
    l_X7_again_27 J x1 oa_fu M8 1)
noncomputable def b_X7_layCalm_10 (J : oa_J2)   (k10 : oa_I2 → Int32 → Option (oa_I2)) (M : oa_I2) (x1 : Int32) : Option (oa_I2) :=
  if 42 ≤ x1 then (
    some (M))
  else (
    (oa_wr (M 1) 600 (528 + x1) 0).bind fun (g5 : Nat → Int32) =>
    oa_let (va_up M 1 g5) fun (M7 : oa_I2) =>
    k10 M7 (x1 + 1))
noncomputable def l_X7_layCalm_10 (J : oa_J2)   (n : Nat) (M : oa_I2) (x1 : Int32) : Option (oa_I2) :=
  oa_fix (fun k => oa_u fun (M : oa_I2) (x1 : Int32) => b_X7_layCalm_10 J (fun M x1 => k (M, x1)) M x1) n (M, x1)
noncomputable def f_X7_layCalm (M : oa_I2) (J : oa_J2)  : Option (oa_I2) :=
  (f_X7_copies M J 0 480).bind fun (M1 : oa_I2) =>
  l_X7_layCalm_10 J oa_fu M1 0
noncomputable def b_X7_feigns_4 (M : oa_I2) (J : oa_J2)   (k4 : Int32 → Int32 → Option (Int32)) (x1 : Int32) (x2 : Int32) : Option (Int32) :=
  (f_X7_many M J).bind fun (y1 : Int32) =>
  if y1 ≤ x2 then (
    some (x1))
  else (
    (oa_rd (M 1) 600 ((8 * x2) + 0)).bind fun (y5 : Int32) =>
    if y5 = 3 then (
      oa_let (x1 ||| ((1 : Int32) <<< (x2 &&& 31))) fun (y10 : Int32) =>
      k4 y10 (x2 + 1))
    else (
      oa_let (x1 ||| 0) fun (y8 : Int32) =>
      k4 y8 (x2 + 1)))
noncomputable def l_X7_feigns_4 (M : oa_I2) (J : oa_J2)   (n : Nat) (x1 : Int32) (x2 : Int32) : Option (Int32) :=
  oa_fix (fun k => oa_u fun (x1 : Int32) (x2 : Int32) => b_X7_feigns_4 M J (fun x1 x2 => k (x1, x2)) x1 x2) n (x1, x2)
noncomputable def f_X7_feigns (M : oa_I2) (J : oa_J2)  : Option (Int32) :=
  l_X7_feigns_4 M J oa_fu 0 0
noncomputable def b_X7_always_35 (J : oa_J2) (M : oa_I2) (x1 : Int32) (x3 : Int32) (k24 : Int32 → Int32 → Option (Int32 × oa_I2)) (k35 : Int32 → Int32 → Option (Int32 × oa_I2)) (x2 : Int32) (x4 : Int32) : Option (Int32 × oa_I2) :=
  (f_X7_many M J).bind fun (y16 : Int32) =>
  if y16 ≤ x4 then (
    k24 x2 (x3 + 1))
  else (
    if x4 = x3 then (
      oa_let (x2 ||| 0) fun (y21 : Int32) =>
      k35 y21 (x4 + 1))
    else (
      (f_X7_worthBy M J 480 x3 x4 x1).bind fun (y23 : Int32) =>
      if y23 ≤ 0 then (
        oa_let (x2 ||| 0) fun (y27 : Int32) =>
        k35 y27 (x4 + 1))
      else (
        oa_let (x2 ||| ((1 : Int32) <<< (x4 &&& 31))) fun (y29 : Int32) =>
        k35 y29 (x4 + 1))))
noncomputable def l_X7_always_35 (J : oa_J2) (M : oa_I2) (x1 : Int32) (x3 : Int32) (k24 : Int32 → Int32 → Option (Int32 × oa_I2)) (n : Nat) (x2 : Int32) (x4 : Int32) : Option (Int32 × oa_I2) :=
  oa_fix (fun k => oa_u fun (x2 : Int32) (x4 : Int32) => b_X7_always_35 J M x1 x3 k24 (fun x2 x4 => k (x2, x4)) x2 x4) n (x2, x4)
noncomputable def b_X7_always_24 (J : oa_J2) (M : oa_I2) (x1 : Int32)  (k24 : Int32 → Int32 → Option (Int32 × oa_I2)) (x2 : Int32) (x3 : Int32) : Option (Int32 × oa_I2) :=
  (f_X7_many M J).bind fun (y12 : Int32) =>
  if y12 ≤ x3 then (
    some (x2, M))
  else (
    l_X7_always_35 J M x1 x3 k24 oa_fu x2 0)
noncomputable def l_X7_always_24 (J : oa_J2) (M : oa_I2) (x1 : Int32)  (n : Nat) (x2 : Int32) (x3 : Int32) : Option (Int32 × oa_I2) :=
  oa_fix (fun k => oa_u fun (x2 : Int32) (x3 : Int32) => b_X7_always_24 J M x1 (fun x2 x3 => k (x2, x3)) x2 x3) n (x2, x3)
noncomputable def f_X7_always (M : oa_I2) (J : oa_J2)  : Option (Int32 × oa_I2) :=
  (f_X7_layCalm M J).bind fun (M1 : oa_I2) =>
  (f_X7_many M1 J).bind fun (y4 : Int32) =>
  (f_X7_feigns M1 J).bind fun (y7 : Int32) =>
  oa_let ((((1 : Int32) <<< (y4 &&& 31)) - 1) &&& (y7 ^^^ (-1))) fun (y10 : Int32) =>
  l_X7_always_24 J M1 y10 oa_fu 0 0
noncomputable def b_X7_angerBits_4 (M : oa_I2) (J : oa_J2) (x1 : Int32)   (k4 : Int32 → Int32 → Option (Int32)) (x2 : Int32) (x3 : Int32) : Option (Int32) :=
  if 6 < x3 then (
    some (x2))
  else (
    (f_X7_age M J 0 x1 x3).bind fun (y2 : Int32) =>
    if y2 ≤ 0 then (
      oa_let (x2 ||| 0) fun (y6 : Int32) =>
      k4 y6 (x3 + 1))
    else (
      oa_let (x2 ||| ((1 : Int32) <<< (x3 &&& 31))) fun (y8 : Int32) =>
      k4 y8 (x3 + 1)))
noncomputable def l_X7_angerBits_4 (M : oa_I2) (J : oa_J2) (x1 : Int32)   (n : Nat) (x2 : Int32) (x3 : Int32) : Option (Int32) :=
  oa_fix (fun k => oa_u fun (x2 : Int32) (x3 : Int32) => b_X7_angerBits_4 M J x1 (fun x2 x3 => k (x2, x3)) x2 x3) n (x2, x3)
noncomputable def f_X7_angerBits (M : oa_I2) (J : oa_J2) (x1 : Int32) : Option (Int32) :=
  l_X7_angerBits_4 M J x1 oa_fu 0 0
noncomputable def f_X7_back (M : oa_I2) (J : oa_J2) (x1 : Int32) : Option (Int32 × oa_I2) :=
  (f_X7_in (Int32.toInt64 x1) 0 1).bind fun (y1 : Int32) =>
  if y1 = 0 then (
    some ((-1), M))
  else (
    (oa_rd (M 11) 2 x1).bind fun (y5 : Int32) =>
    if y5 = 0 then (
      some ((-2), M))
    else (
      (f_X7_copies M J (120 * (x1 + 1)) 0).bind fun (M8 : oa_I2) =>
      (oa_rd (M8 1) 600 96).bind fun (y11 : Int32) =>
      some (y11, M8)))
noncomputable def b_X7_bitsOf_4 (x0 : Int32)   (k4 : Int32 → Int32 → Option (Int32)) (x1 : Int32) (x2 : Int32) : Option (Int32) :=
  if 7 ≤ x2 then (
    some (x1))
  else (
    oa_let (x1 + ((x0 >>> (x2 &&& 31)) &&& 1)) fun (y2 : Int32) =>
    k4 y2 (x2 + 1))
noncomputable def l_X7_bitsOf_4 (x0 : Int32)   (n : Nat) (x1 : Int32) (x2 : Int32) : Option (Int32) :=
  oa_fix (fun k => oa_u fun (x1 : Int32) (x2 : Int32) => b_X7_bitsOf_4 x0 (fun x1 x2 => k (x1, x2)) x1 x2) n (x1, x2)
noncomputable def f_X7_bitsOf  (x0 : Int32) : Option (Int32) :=
  l_X7_bitsOf_4 x0 oa_fu 0 0
noncomputable def f_X7_byteAt (M : oa_I2) (J : oa_J2) (x1 : Int32) : Option (Int32) :=
  if (M 0 0) ≤ x1 then (
    some ((-4)))
  else (
    (oa_rd (M 5) 320 x1).bind fun (y2 : Int32) =>
    some (y2))
noncomputable def b_X7_count_97 (M : oa_I2) (J : oa_J2) (x1 : Int32)   (s0 : Int32) : Option (Int32) :=
  (oa_rd (M 11) 2 1).bind fun (y28 : Int32) =>
  if y28 = 0 then (
    some ((s0 + 0)))
  else (
    some ((s0 + 1)))
noncomputable def b_X7_count_4 (M : oa_I2) (J : oa_J2) (x1 : Int32)   (k4 : Int32 → Int32 → Option (Int32)) (x2 : Int32) (x3 : Int32) : Option (Int32) :=
  (f_X7_many M J).bind fun (y1 : Int32) =>
  if y1 ≤ x3 then (
    if x1 = 0 then (
      (f_X7_many M J).bind fun (y6 : Int32) =>
      some (y6))
    else (
    if x1 = 1 then (
      some (x2))
    else (
    if x1 = 2 then (
      (oa_rd (M 11) 2 0).bind fun (y11 : Int32) =>
      if y11 = 0 then (
        b_X7_count_97 M J x1 0)
      else (
        b_X7_count_97 M J x1 1))
    else (
    if x1 = 3 then (
      some ((M 0 0)))
    else (
    if x1 = 4 then (
      (oa_rd (M 12) 4 0).bind fun (y16 : Int32) =>
      if y16 = (-4) then (
        some ((-4)))
      else (
        (oa_rd (M 13) 4 0).bind fun (y19 : Int32) =>
        some (y19)))
    else (
    some ((-1))))))))
  else (
    (oa_rd (M 1) 600 ((8 * x3) + 0)).bind fun (y21 : Int32) =>
    if y21 = 2 then (
      oa_let (x2 + 1) fun (y26 : Int32) =>
      k4 y26 (x3 + 1))
    else (
      oa_let (x2 + 0) fun (y24 : Int32) =>
      k4 y24 (x3 + 1)))
noncomputable def l_X7_count_4 (M : oa_I2) (J : oa_J2) (x1 : Int32)   (n : Nat) (x2 : Int32) (x3 : Int32) : Option (Int32) :=
  oa_fix (fun k => oa_u fun (x2 : Int32) (x3 : Int32) => b_X7_count_4 M J x1 (fun x2 x3 => k (x2, x3)) x2 x3) n (x2, x3)
noncomputable def f_X7_count (M : oa_I2) (J : oa_J2) (x1 : Int32) : Option (Int32) :=
  l_X7_count_4 M J x1 oa_fu 0 0
noncomputable def f_X7_end (M : oa_I2) (J : oa_J2) (x1 : Int32) : Option (Int32 × oa_I2) :=
  (f_X7_in (Int32.toInt64 x1) 0 (Int32.toInt64 (M 0 0))).bind fun (y1 : Int32) =>
  if y1 = 0 then (
    some ((-1), M))
  else (
    oa_let (M 0 0) fun (y5 : Int32) =>
    oa_let (va_up M 0 (upd (M 0) 0 x1)) fun (M7 : oa_I2) =>
    some (y5, M7))
noncomputable def f_X7_fails (M : oa_I2) (J : oa_J2) (x1 : Int32) : Option (oa_I2) :=
  if (M 0 2) = 0 then (
    oa_let (va_up M 0 (upd (M 0) 2 x1)) fun (M2 : oa_I2) =>
    oa_let (va_up M2 0 (upd (M2 0) 3 (M2 0 5))) fun (M4 : oa_I2) =>
    some (M4))
  else (
    some (M))
noncomputable def f_X7_fault (M : oa_I2) (J : oa_J2)  : Option (Int32) :=
  some ((M 0 1))
noncomputable def b_X7_feed_19 (J : oa_J2) (x1 : Int64)   (k19 : oa_I2 → Int32 → Option (Int32 × oa_I2)) (M : oa_I2) (x3 : Int32) : Option (Int32 × oa_I2) :=
  if x3 < 0 then (
    some ((M 0 0), M))
  else (
    (oa_wr (M 5) 320 (M 0 0) ((Int64.toInt32 (x1 >>> (Int32.toInt64 x3 &&& 63))) &&& 255)).bind fun (g3 : Nat → Int32) =>
    oa_let (va_up M 5 g3) fun (M5 : oa_I2) =>
    oa_let (va_up M5 0 (upd (M5 0) 0 ((M5 0 0) + 1))) fun (M7 : oa_I2) =>
    k19 M7 (x3 + (-8)))
noncomputable def l_X7_feed_19 (J : oa_J2) (x1 : Int64)   (n : Nat) (M : oa_I2) (x3 : Int32) : Option (Int32 × oa_I2) :=
  oa_fix (fun k => oa_u fun (M : oa_I2) (x3 : Int32) => b_X7_feed_19 J x1 (fun M x3 => k (M, x3)) M x3) n (M, x3)
noncomputable def f_X7_feed (M : oa_I2) (J : oa_J2) (x1 : Int64) : Option (Int32 × oa_I2) :=
  if ((M 0 0) + 8) ≤ 320 then (
    l_X7_feed_19 J x1 oa_fu M 56)
  else (
    some ((-3), M))
noncomputable def b_X7_isSafeBy_22 (M : oa_I2) (J : oa_J2) (x1 : Int32) (x2 : Int32) (x3 : Int32) (k11 : Int32 → Option (Int32)) (k22 : Int32 → Option (Int32)) (x4 : Int32) : Option (Int32) :=
  (f_X7_many M J).bind fun (y10 : Int32) =>
  if y10 ≤ x4 then (
    k11 (x3 + 1))
  else (
    if x4 = x3 then (
      k22 (x4 + 1))
    else (
      (f_X7_worthBy M J 480 x3 x4 x2).bind fun (y15 : Int32) =>
      if y15 ≤ 0 then (
        k22 (x4 + 1))
      else (
        some (0))))
noncomputable def l_X7_isSafeBy_22 (M : oa_I2) (J : oa_J2) (x1 : Int32) (x2 : Int32) (x3 : Int32) (k11 : Int32 → Option (Int32)) (n : Nat) (x4 : Int32) : Option (Int32) :=
  oa_fix (fun k => fun (x4 : Int32) => b_X7_isSafeBy_22 M J x1 x2 x3 k11 (fun x4 => k x4) x4) n x4
noncomputable def b_X7_isSafeBy_11 (M : oa_I2) (J : oa_J2) (x1 : Int32) (x2 : Int32)  (k11 : Int32 → Option (Int32)) (x3 : Int32) : Option (Int32) :=
  (f_X7_many M J).bind fun (y6 : Int32) =>
  if y6 ≤ x3 then (
    some (1))
  else (
    l_X7_isSafeBy_22 M J x1 x2 x3 k11 oa_fu 0)
noncomputable def l_X7_isSafeBy_11 (M : oa_I2) (J : oa_J2) (x1 : Int32) (x2 : Int32)  (n : Nat) (x3 : Int32) : Option (Int32) :=
  oa_fix (fun k => fun (x3 : Int32) => b_X7_isSafeBy_11 M J x1 x2 (fun x3 => k x3) x3) n x3
noncomputable def f_X7_isSafeBy (M : oa_I2) (J : oa_J2) (x1 : Int32) : Option (Int32) :=
  (f_X7_feigns M J).bind fun (y1 : Int32) =>
  oa_let (x1 &&& (y1 ^^^ (-1))) fun (y4 : Int32) =>
  l_X7_isSafeBy_11 M J x1 y4 oa_fu 0
noncomputable def b_X7_fewest_21 (J : oa_J2) (x1 : Int32) (M : oa_I2)  (k21 : Int32 → Int32 → Option (Int32 × oa_I2)) (x2 : Int32) (x3 : Int32) : Option (Int32 × oa_I2) :=
  (f_X7_many M J).bind fun (y8 : Int32) =>
  if ((1 : Int32) <<< (y8 &&& 31)) ≤ x3 then (
    if x2 = (-4) then (
      some (x2, M))
    else (
      if x1 = 1 then (
        some (x2, M))
      else (
        (f_X7_bitsOf x2).bind fun (y14 : Int32) =>
        some (y14, M))))
  else (
    (f_X7_isSafeBy M J x3).bind fun (y17 : Int32) =>
    if y17 = 0 then (
      k21 x2 (x3 + 1))
    else (
      if x2 = (-4) then (
        k21 x3 (x3 + 1))
      else (
        (f_X7_bitsOf x3).bind fun (y22 : Int32) =>
        (f_X7_bitsOf x2).bind fun (y25 : Int32) =>
        if y25 ≤ y22 then (
          k21 x2 (x3 + 1))
        else (
          k21 x3 (x3 + 1)))))
noncomputable def l_X7_fewest_21 (J : oa_J2) (x1 : Int32) (M : oa_I2)  (n : Nat) (x2 : Int32) (x3 : Int32) : Option (Int32 × oa_I2) :=
  oa_fix (fun k => oa_u fun (x2 : Int32) (x3 : Int32) => b_X7_fewest_21 J x1 M (fun x2 x3 => k (x2, x3)) x2 x3) n (x2, x3)
noncomputable def f_X7_fewest (M : oa_I2) (J : oa_J2) (x1 : Int32) : Option (Int32 × oa_I2) :=
  (f_X7_in (Int32.toInt64 x1) 0 1).bind fun (y1 : Int32) =>
  if y1 = 0 then (
    some ((-1), M))
  else (
    (f_X7_layCalm M J).bind fun (M5 : oa_I2) =>
    l_X7_fewest_21 J x1 M5 oa_fu (-4) 0)
noncomputable def b_X7_go_24 (J : oa_J2) (x1 : Int32) (x2 : Int32)  (k24 : oa_I2 → Int32 → Option (Int32 × oa_I2)) (M : oa_I2) (x3 : Int32) : Option (Int32 × oa_I2) :=
  if x1 ≤ x3 then (
    (oa_rd (M 1) 600 97).bind fun (y8 : Int32) =>
    some ((y8 - x2), M))
  else (
    (f_X7_week M J 0).bind fun (M10 : oa_I2) =>
    k24 M10 (x3 + 1))
noncomputable def l_X7_go_24 (J : oa_J2) (x1 : Int32) (x2 : Int32)  (n : Nat) (M : oa_I2) (x3 : Int32) : Option (Int32 × oa_I2) :=
  oa_fix (fun k => oa_u fun (M : oa_I2) (x3 : Int32) => b_X7_go_24 J x1 x2 (fun M x3 => k (M, x3)) M x3) n (M, x3)
noncomputable def f_X7_go (M : oa_I2) (J : oa_J2) (x1 : Int32) : Option (Int32 × oa_I2) :=
  (f_X7_in (Int32.toInt64 x1) 1 99).bind fun (y1 : Int32) =>
  if y1 = 0 then (
    some ((-1), M))
  else (
    (oa_rd (M 1) 600 97).bind fun (y5 : Int32) =>
    l_X7_go_24 J x1 y5 oa_fu M 0)
noncomputable def f_X7_isOne (M : oa_I2) (J : oa_J2) (x1 : Int32) : Option (Int32) :=
  (f_X7_many M J).bind fun (y1 : Int32) =>
  (f_X7_in (Int32.toInt64 x1) 0 (Int32.toInt64 (y1 - 1))).bind fun (y4 : Int32) =>
  (oa_zc y4).bind fun (z7 : Int32) =>
  some (z7)
noncomputable def f_X7_got (M : oa_I2) (J : oa_J2) (x1 : Int32) : Option (Int32) :=
  (f_X7_isOne M J x1).bind fun (y1 : Int32) =>
  if y1 = 0 then (
    some ((-1000000)))
  else (
    (oa_rd (M 1) 600 (90 + x1)).bind fun (y5 : Int32) =>
    some (y5))
noncomputable def b_X7_openCount_23 (M : oa_I2) (J : oa_J2) (x1 : Int32) (x3 : Int32) (x4 : Int32) (k11 : Int32 → Int32 → Option (Int32)) (k23 : Int32 → Int32 → Option (Int32)) (x2 : Int32) (x5 : Int32) : Option (Int32) :=
  (f_X7_many M J).bind fun (y8 : Int32) =>
  if y8 ≤ x5 then (
    k11 x2 (x4 + 1))
  else (
    if x5 = x4 then (
      oa_let (x2 + 0) fun (y13 : Int32) =>
      k23 y13 (x5 + 1))
    else (
      (f_X7_worthBy M J x1 x4 x5 x3).bind fun (y15 : Int32) =>
      if y15 ≤ 0 then (
        oa_let (x2 + 0) fun (y19 : Int32) =>
        k23 y19 (x5 + 1))
      else (
        oa_let (x2 + 1) fun (y21 : Int32) =>
        k23 y21 (x5 + 1))))
noncomputable def l_X7_openCount_23 (M : oa_I2) (J : oa_J2) (x1 : Int32) (x3 : Int32) (x4 : Int32) (k11 : Int32 → Int32 → Option (Int32)) (n : Nat) (x2 : Int32) (x5 : Int32) : Option (Int32) :=
  oa_fix (fun k => oa_u fun (x2 : Int32) (x5 : Int32) => b_X7_openCount_23 M J x1 x3 x4 k11 (fun x2 x5 => k (x2, x5)) x2 x5) n (x2, x5)
noncomputable def b_X7_openCount_11 (M : oa_I2) (J : oa_J2) (x1 : Int32) (x3 : Int32)  (k11 : Int32 → Int32 → Option (Int32)) (x2 : Int32) (x4 : Int32) : Option (Int32) :=
  (f_X7_many M J).bind fun (y4 : Int32) =>
  if y4 ≤ x4 then (
    some (x2))
  else (
    l_X7_openCount_23 M J x1 x3 x4 k11 oa_fu x2 0)
noncomputable def l_X7_openCount_11 (M : oa_I2) (J : oa_J2) (x1 : Int32) (x3 : Int32)  (n : Nat) (x2 : Int32) (x4 : Int32) : Option (Int32) :=
  oa_fix (fun k => oa_u fun (x2 : Int32) (x4 : Int32) => b_X7_openCount_11 M J x1 x3 (fun x2 x4 => k (x2, x4)) x2 x4) n (x2, x4)
noncomputable def f_X7_openCount (M : oa_I2) (J : oa_J2) (x1 : Int32) : Option (Int32) :=
  (f_X7_seenFree M J x1).bind fun (y1 : Int32) =>
  l_X7_openCount_11 M J x1 y1 oa_fu 0 0
noncomputable def f_X7_hiredCost (M : oa_I2) (J : oa_J2) (x1 : Int32) : Option (Int32) :=
  (oa_rd (M 2) 3 1).bind fun (y1 : Int32) =>
  (f_X7_lesser (x1 * y1) ((4 * x1) + 20)).bind fun (y3 : Int32) =>
  some (y3)
noncomputable def b_X7_openWith_72 (M : oa_I2) (J : oa_J2) (x1 : Int32) (x2 : Int32) (x3 : Int32)  (k13 : Int32 → Int32 → Option (Int32)) (k25 : Int32 → Int32 → Option (Int32)) (x4 : Int32) (x5 : Int32) (x6 : Int32) (x7 : Int32) (s0 : Int32) : Option (Int32) :=
  if s0 ≤ 0 then (
    oa_let (x4 + 0) fun (y21 : Int32) =>
    k25 y21 (x7 + 1))
  else (
    if x3 = 0 then (
      oa_let (x4 + 1) fun (y24 : Int32) =>
      k25 y24 (x7 + 1))
    else (
      if x7 = x2 then (
        oa_let (x4 + 1) fun (y29 : Int32) =>
        k25 y29 (x7 + 1))
      else (
        oa_let (x4 + 0) fun (y27 : Int32) =>
        k25 y27 (x7 + 1))))
noncomputable def b_X7_openWith_25 (M : oa_I2) (J : oa_J2) (x1 : Int32) (x2 : Int32) (x3 : Int32) (x5 : Int32) (x6 : Int32) (k13 : Int32 → Int32 → Option (Int32)) (k25 : Int32 → Int32 → Option (Int32)) (x4 : Int32) (x7 : Int32) : Option (Int32) :=
  (f_X7_many M J).bind fun (y8 : Int32) =>
  if y8 ≤ x7 then (
    k13 x4 (x6 + 1))
  else (
    if x7 = x6 then (
      b_X7_openWith_72 M J x1 x2 x3 k13 k25 x4 x5 x6 x7 0)
    else (
      (f_X7_worthBy M J 0 x6 x7 x5).bind fun (y13 : Int32) =>
      if x7 = x2 then (
        (f_X7_hiredCost M J x1).bind fun (y17 : Int32) =>
        b_X7_openWith_72 M J x1 x2 x3 k13 k25 x4 x5 x6 x7 (y13 - y17))
      else (
        b_X7_openWith_72 M J x1 x2 x3 k13 k25 x4 x5 x6 x7 (y13 - 0))))
noncomputable def l_X7_openWith_25 (M : oa_I2) (J : oa_J2) (x1 : Int32) (x2 : Int32) (x3 : Int32) (x5 : Int32) (x6 : Int32) (k13 : Int32 → Int32 → Option (Int32)) (n : Nat) (x4 : Int32) (x7 : Int32) : Option (Int32) :=
  oa_fix (fun k => oa_u fun (x4 : Int32) (x7 : Int32) => b_X7_openWith_25 M J x1 x2 x3 x5 x6 k13 (fun x4 x7 => k (x4, x7)) x4 x7) n (x4, x7)
noncomputable def b_X7_openWith_13 (M : oa_I2) (J : oa_J2) (x1 : Int32) (x2 : Int32) (x3 : Int32) (x5 : Int32)  (k13 : Int32 → Int32 → Option (Int32)) (x4 : Int32) (x6 : Int32) : Option (Int32) :=
  (f_X7_many M J).bind fun (y4 : Int32) =>
  if y4 ≤ x6 then (
    some (x4))
  else (
    l_X7_openWith_25 M J x1 x2 x3 x5 x6 k13 oa_fu x4 0)
noncomputable def l_X7_openWith_13 (M : oa_I2) (J : oa_J2) (x1 : Int32) (x2 : Int32) (x3 : Int32) (x5 : Int32)  (n : Nat) (x4 : Int32) (x6 : Int32) : Option (Int32) :=
  oa_fix (fun k => oa_u fun (x4 : Int32) (x6 : Int32) => b_X7_openWith_13 M J x1 x2 x3 x5 (fun x4 x6 => k (x4, x6)) x4 x6) n (x4, x6)
noncomputable def f_X7_openWith (M : oa_I2) (J : oa_J2) (x1 : Int32) (x2 : Int32) (x3 : Int32) : Option (Int32) :=
  (f_X7_seenFree M J 0).bind fun (y1 : Int32) =>
  l_X7_openWith_13 M J x1 x2 x3 y1 oa_fu 0 0
noncomputable def b_X7_hire_73 (M : oa_I2) (J : oa_J2) (x1 : Int32) (x2 : Int32)  (k40 : Int32 → Int32 → Int32 → Option (Int32)) (x3 : Int32) (x5 : Int32) (x6 : Int32) (x7 : Int32) (s0 : Int32) : Option (Int32) :=
  if x5 ≤ x7 then (
    k40 s0 x5 (x6 + 1))
  else (
    k40 s0 x7 (x6 + 1))
noncomputable def b_X7_hire_40 (M : oa_I2) (J : oa_J2) (x1 : Int32) (x2 : Int32) (x3 : Int32)  (k40 : Int32 → Int32 → Int32 → Option (Int32)) (x4 : Int32) (x5 : Int32) (x6 : Int32) : Option (Int32) :=
  (f_X7_many M J).bind fun (y12 : Int32) =>
  if y12 ≤ x6 then (
    if x4 = (-4) then (
      some ((-4)))
    else (
      if x2 = 0 then (
        some (x4))
      else (
        some ((x3 - x5)))))
  else (
    (f_X7_openWith M J x1 x6 0).bind fun (y18 : Int32) =>
    if x5 ≤ y18 then (
      b_X7_hire_73 M J x1 x2 k40 x3 x5 x6 y18 x4)
    else (
      b_X7_hire_73 M J x1 x2 k40 x3 x5 x6 y18 x6))
noncomputable def l_X7_hire_40 (M : oa_I2) (J : oa_J2) (x1 : Int32) (x2 : Int32) (x3 : Int32)  (n : Nat) (x4 : Int32) (x5 : Int32) (x6 : Int32) : Option (Int32) :=
  oa_fix (fun k => oa_u fun (x4 : Int32) => oa_u fun (x5 : Int32) (x6 : Int32) => b_X7_hire_40 M J x1 x2 x3 (fun x4 x5 x6 => k (x4, x5, x6)) x4 x5 x6) n (x4, x5, x6)
noncomputable def f_X7_hire (M : oa_I2) (J : oa_J2) (x1 : Int32) (x2 : Int32) : Option (Int32) :=
  (f_X7_in (Int32.toInt64 x1) 0 99).bind fun (y1 : Int32) =>
  if y1 = 0 then (
    some ((-1)))
  else (
    (f_X7_in (Int32.toInt64 x2) 0 1).bind fun (y5 : Int32) =>
    if y5 = 0 then (
      some ((-1)))
    else (
      (f_X7_openCount M J 0).bind fun (y9 : Int32) =>
      l_X7_hire_40 M J x1 x2 y9 oa_fu (-4) y9 0))
noncomputable def b_X7_leastOf_2 (x0 : Int32)   (k2 : Int32 → Option (Int32)) (x1 : Int32) : Option (Int32) :=
  if ((x0 >>> (x1 &&& 31)) &&& 1) = 0 then (
    k2 (x1 + 1))
  else (
    some (x1))
noncomputable def l_X7_leastOf_2 (x0 : Int32)   (n : Nat) (x1 : Int32) : Option (Int32) :=
  oa_fix (fun k => fun (x1 : Int32) => b_X7_leastOf_2 x0 (fun x1 => k x1) x1) n x1
noncomputable def f_X7_leastOf  (x0 : Int32) : Option (Int32) :=
  l_X7_leastOf_2 x0 oa_fu 0
noncomputable def b_X7_isRing_7 (M : oa_I2) (J : oa_J2) (x1 : Int32) (x2 : Int32)  (k7 : Int32 → Option (Int32)) (x3 : Int32) : Option (Int32) :=
  if 6 ≤ x3 then (
    some (0))
  else (
    (oa_rd (M 9) 384 ((6 * x1) + x3)).bind fun (y5 : Int32) =>
    if y5 = 0 then (
      k7 (x3 + 1))
    else (
      if x3 = x2 then (
        k7 (x3 + 1))
      else (
        (f_X7_age M J 0 x3 x2).bind fun (y9 : Int32) =>
        if y9 ≤ 0 then (
          k7 (x3 + 1))
        else (
          some (1)))))
noncomputable def l_X7_isRing_7 (M : oa_I2) (J : oa_J2) (x1 : Int32) (x2 : Int32)  (n : Nat) (x3 : Int32) : Option (Int32) :=
  oa_fix (fun k => fun (x3 : Int32) => b_X7_isRing_7 M J x1 x2 (fun x3 => k x3) x3) n x3
noncomputable def f_X7_isRing (M : oa_I2) (J : oa_J2) (x1 : Int32) : Option (Int32) :=
  (f_X7_leastOf x1).bind fun (y1 : Int32) =>
  l_X7_isRing_7 M J x1 y1 oa_fu 0
noncomputable def f_X7_isWhom (M : oa_I2) (J : oa_J2) (x1 : Int32) (x2 : Int32) : Option (Int32) :=
  (f_X7_isOne M J x1).bind fun (y1 : Int32) =>
  if y1 = 0 then (
    some (0))
  else (
    if x2 = 6 then (
      some (1))
    else (
      (f_X7_isOne M J x2).bind fun (y6 : Int32) =>
      if y6 = 0 then (
        some (0))
      else (
        if x2 = x1 then (
          some (0))
        else (
          some (1)))))
noncomputable def f_X7_isWrong (M : oa_I2) (J : oa_J2) (x1 : Int32) (x2 : Int32) : Option (Int32) :=
  (f_X7_isOne M J x1).bind fun (y1 : Int32) =>
  if y1 = 0 then (
    some (0))
  else (
    (f_X7_isOne M J x2).bind fun (y5 : Int32) =>
    if y5 = 0 then (
      some (0))
    else (
      if x1 = x2 then (
        some (0))
      else (
        some (1))))
noncomputable def b_X7_keep_37 (J : oa_J2) (x1 : Int32)   (M : oa_I2) (s0 : Int32) : Option (Int32 × oa_I2) :=
  (oa_wr (M 11) 2 x1 (vp_nar .boolean 1)).bind fun (g11 : Nat → Int32) =>
  oa_let (va_up M 11 g11) fun (M13 : oa_I2) =>
  some (s0, M13)
noncomputable def f_X7_keep (M : oa_I2) (J : oa_J2) (x1 : Int32) : Option (Int32 × oa_I2) :=
  (f_X7_in (Int32.toInt64 x1) 0 1).bind fun (y1 : Int32) =>
  if y1 = 0 then (
    some ((-1), M))
  else (
    (f_X7_copies M J 0 (120 * (x1 + 1))).bind fun (M5 : oa_I2) =>
    (oa_rd (M5 11) 2 x1).bind fun (y8 : Int32) =>
    if y8 = 0 then (
      b_X7_keep_37 J x1 M5 0)
    else (
      b_X7_keep_37 J x1 M5 1))
noncomputable def b_X7_lay_99 (J : oa_J2) (x1 : Int32) (x2 : Int32) (x3 : Int32)   (M : oa_I2) (s1 : Int32) (s2 : Int32) : Option (Int32 × oa_I2) :=
  (oa_wr (M 14) 160 s1 s2).bind fun (g20 : Nat → Int32) =>
  oa_let (va_up M 14 g20) fun (M22 : oa_I2) =>
  some (1, M22)
noncomputable def f_X7_lay (M : oa_I2) (J : oa_J2) (x1 : Int32) (x2 : Int32) (x3 : Int32) : Option (Int32 × oa_I2) :=
  (f_X7_in (Int32.toInt64 x1) 0 3).bind fun (y1 : Int32) =>
  if y1 = 0 then (
    some ((-1), M))
  else (
    (oa_rd (M 12) 4 x1).bind fun (y5 : Int32) =>
    if y5 = (-4) then (
      some ((-11), M))
    else (
      (oa_rd (M 13) 4 x1).bind fun (y8 : Int32) =>
      (f_X7_in (Int32.toInt64 x2) 0 (Int32.toInt64 (y8 - 1))).bind fun (y10 : Int32) =>
      if y10 = 0 then (
        some ((-12), M))
      else (
        (oa_rd (M 12) 4 x1).bind fun (y14 : Int32) =>
        if y14 = 0 then (
          b_X7_lay_99 J x1 x2 x3 M ((40 * x1) + x2) ((x3 <<< ((24 : Int32) &&& 31)) >>> ((24 : Int32) &&& 31)))
        else (
          (oa_rd (M 12) 4 x1).bind fun (y17 : Int32) =>
          if y17 = 1 then (
            b_X7_lay_99 J x1 x2 x3 M ((40 * x1) + x2) ((x3 <<< ((16 : Int32) &&& 31)) >>> ((16 : Int32) &&& 31)))
          else (
            b_X7_lay_99 J x1 x2 x3 M ((40 * x1) + x2) x3)))))
noncomputable def b_X7_layChances_209 (M : oa_I2) (x1 : Int32)  (k80 : oa_J2 → Int32 → Option (oa_J2)) (J : oa_J2) (x2 : Int32) (x3 : Int32) (x4 : Int32) (x5 : Int64) (s0 : Int32) : Option (oa_J2) :=
  if s0 = (-4) then (
    k80 J (x4 + 1))
  else (
    (oa_rdL (J 0) 6 s0).bind fun (y38 : Int64) =>
    (oa_wrL (J 0) 6 s0 (y38 + x5)).bind fun (g40 : Nat → Int64) =>
    oa_let (va_up J 0 g40) fun (J42 : oa_J2) =>
    (f_X7_worthBy M J42 0 x1 s0 x3).bind fun (y44 : Int32) =>
    oa_let (va_up J42 1 (vp_updL (J42 1) 0 ((J42 1 0) + (x5 * (Int32.toInt64 y44))))) fun (J47 : oa_J2) =>
    k80 J47 (x4 + 1))
noncomputable def b_X7_layChances_141 (M : oa_I2) (x1 : Int32)  (k80 : oa_J2 → Int32 → Option (oa_J2)) (k111 : Int64 → Int32 → Option (oa_J2)) (J : oa_J2) (x2 : Int32) (x3 : Int32) (x4 : Int32) (x5 : Int64) (x7 : Int32) (s0 : Int32) : Option (oa_J2) :=
  if x7 = x1 then (
    oa_let (x5 * 1) fun (y59 : Int64) =>
    k111 y59 (x7 + 1))
  else (
    if s0 = 0 then (
      (oa_rd (M 2) 3 2).bind fun (y51 : Int32) =>
      oa_let (x5 * (Int32.toInt64 (10 - y51))) fun (y53 : Int64) =>
      k111 y53 (x7 + 1))
    else (
      (oa_rd (M 2) 3 2).bind fun (y55 : Int32) =>
      oa_let (x5 * (Int32.toInt64 y55)) fun (y57 : Int64) =>
      k111 y57 (x7 + 1)))
noncomputable def b_X7_layChances_111 (M : oa_I2) (x1 : Int32) (J : oa_J2) (x2 : Int32) (x3 : Int32) (x4 : Int32) (k80 : oa_J2 → Int32 → Option (oa_J2)) (k111 : Int64 → Int32 → Option (oa_J2)) (x5 : Int64) (x7 : Int32) : Option (oa_J2) :=
  (f_X7_many M J).bind fun (y28 : Int32) =>
  if y28 ≤ x7 then (
    if (lg_cmp x5 0) = 0 then (
      b_X7_layChances_209 M x1 k80 J x2 x3 x4 x5 (-4))
    else (
      (f_X7_chosen M J 0 x1 x4).bind fun (y33 : Int32) =>
      b_X7_layChances_209 M x1 k80 J x2 x3 x4 x5 y33))
  else (
    if ((x4 >>> (x7 &&& 31)) &&& 1) = ((x2 >>> (x7 &&& 31)) &&& 1) then (
      b_X7_layChances_141 M x1 k80 k111 J x2 x3 x4 x5 x7 1)
    else (
      b_X7_layChances_141 M x1 k80 k111 J x2 x3 x4 x5 x7 0))
noncomputable def l_X7_layChances_111 (M : oa_I2) (x1 : Int32) (J : oa_J2) (x2 : Int32) (x3 : Int32) (x4 : Int32) (k80 : oa_J2 → Int32 → Option (oa_J2)) (n : Nat) (x5 : Int64) (x7 : Int32) : Option (oa_J2) :=
  oa_fix (fun k => oa_u fun (x5 : Int64) (x7 : Int32) => b_X7_layChances_111 M x1 J x2 x3 x4 k80 (fun x5 x7 => k (x5, x7)) x5 x7) n (x5, x7)
noncomputable def b_X7_layChances_80 (M : oa_I2) (x1 : Int32) (x2 : Int32) (x3 : Int32)  (k80 : oa_J2 → Int32 → Option (oa_J2)) (J : oa_J2) (x4 : Int32) : Option (oa_J2) :=
  (f_X7_many M J).bind fun (y21 : Int32) =>
  if ((1 : Int32) <<< (y21 &&& 31)) ≤ x4 then (
    some (J))
  else (
    if ((x4 >>> (x1 &&& 31)) &&& 1) = 1 then (
      l_X7_layChances_111 M x1 J x2 x3 x4 k80 oa_fu 0 0)
    else (
      l_X7_layChances_111 M x1 J x2 x3 x4 k80 oa_fu 1 0))
noncomputable def l_X7_layChances_80 (M : oa_I2) (x1 : Int32) (x2 : Int32) (x3 : Int32)  (n : Nat) (J : oa_J2) (x4 : Int32) : Option (oa_J2) :=
  oa_fix (fun k => oa_u fun (J : oa_J2) (x4 : Int32) => b_X7_layChances_80 M x1 x2 x3 (fun J x4 => k (J, x4)) J x4) n (J, x4)
noncomputable def b_X7_layChances_67 (M : oa_I2) (x1 : Int32)  (k25 : oa_J2 → Int32 → Option (oa_J2)) (J : oa_J2) (x2 : Int32) (x3 : Int32) (x4 : Int32) (s1 : Int64) (s2 : Int64) : Option (oa_J2) :=
  oa_let (va_up J 1 (vp_updL (J 1) 1 (s1 * s2))) fun (J26 : oa_J2) =>
  k25 J26 (x4 + 1)
noncomputable def b_X7_layChances_25 (M : oa_I2) (x1 : Int32) (x2 : Int32) (x3 : Int32)  (k25 : oa_J2 → Int32 → Option (oa_J2)) (J : oa_J2) (x4 : Int32) : Option (oa_J2) :=
  if 6 ≤ x4 then (
    l_X7_layChances_80 M x1 x2 x3 oa_fu J 0)
  else (
    (oa_wrL (J 0) 6 x4 0).bind fun (g12 : Nat → Int64) =>
    oa_let (va_up J 0 g12) fun (J14 : oa_J2) =>
    (f_X7_many M J14).bind fun (y16 : Int32) =>
    if y16 ≤ x4 then (
      b_X7_layChances_67 M x1 k25 J14 x2 x3 x4 (J14 1 1) 1)
    else (
      if x4 = x1 then (
        b_X7_layChances_67 M x1 k25 J14 x2 x3 x4 (J14 1 1) 1)
      else (
        b_X7_layChances_67 M x1 k25 J14 x2 x3 x4 (J14 1 1) 10)))
noncomputable def l_X7_layChances_25 (M : oa_I2) (x1 : Int32) (x2 : Int32) (x3 : Int32)  (n : Nat) (J : oa_J2) (x4 : Int32) : Option (oa_J2) :=
  oa_fix (fun k => oa_u fun (J : oa_J2) (x4 : Int32) => b_X7_layChances_25 M x1 x2 x3 (fun J x4 => k (J, x4)) J x4) n (J, x4)
noncomputable def f_X7_layChances (M : oa_I2) (J : oa_J2) (x1 : Int32) : Option (oa_J2) :=
  (f_X7_seenFree M J 0).bind fun (y1 : Int32) =>
  (f_X7_freeOnes M J 0).bind fun (y4 : Int32) =>
  oa_let (va_up J 1 (vp_updL (J 1) 0 0)) fun (J7 : oa_J2) =>
  oa_let (va_up J7 1 (vp_updL (J7 1) 1 1)) fun (J9 : oa_J2) =>
  l_X7_layChances_25 M x1 y1 y4 oa_fu J9 0
noncomputable def b_X7_layWays_130 (J : oa_J2)  (k2 : oa_I2 → Int32 → Option (oa_I2)) (k19 : oa_I2 → Int32 → Option (oa_I2)) (M : oa_I2) (x1 : Int32) (x2 : Int32) (x3 : Int32) (x4 : Int32) : Option (oa_I2) :=
  (oa_wr (M 9) 384 ((6 * x1) + x3) (vp_nar .boolean x4)).bind fun (g29 : Nat → Int32) =>
  oa_let (va_up M 9 g29) fun (M31 : oa_I2) =>
  k19 M31 (x3 + 1)
noncomputable def b_X7_layWays_51 (J : oa_J2) (M : oa_I2) (x1 : Int32) (x2 : Int32) (x3 : Int32) (x5 : Int32) (k2 : oa_I2 → Int32 → Option (oa_I2)) (k19 : oa_I2 → Int32 → Option (oa_I2)) (k51 : Int32 → Int32 → Option (oa_I2)) (x4 : Int32) (x6 : Int32) : Option (oa_I2) :=
  (f_X7_many M J).bind fun (y14 : Int32) =>
  if y14 ≤ x6 then (
    b_X7_layWays_130 J k2 k19 M x1 x2 x3 x4)
  else (
    if x4 = 0 then (
      if ((x1 >>> (x3 &&& 31)) &&& 1) = 1 then (
        if x3 = x2 then (
          b_X7_layWays_130 J k2 k19 M x1 x2 x3 x4)
        else (
          (oa_rd (M 9) 384 ((6 * x5) + x6)).bind fun (y21 : Int32) =>
          if y21 = 0 then (
            k51 0 (x6 + 1))
          else (
            if ((x5 >>> (x6 &&& 31)) &&& 1) = 1 then (
              (f_X7_age M J 0 x6 x3).bind fun (y25 : Int32) =>
              if y25 ≤ 0 then (
                k51 0 (x6 + 1))
              else (
                k51 1 (x6 + 1)))
            else (
              k51 0 (x6 + 1)))))
      else (
        b_X7_layWays_130 J k2 k19 M x1 x2 x3 x4))
    else (
      b_X7_layWays_130 J k2 k19 M x1 x2 x3 x4))
noncomputable def l_X7_layWays_51 (J : oa_J2) (M : oa_I2) (x1 : Int32) (x2 : Int32) (x3 : Int32) (x5 : Int32) (k2 : oa_I2 → Int32 → Option (oa_I2)) (k19 : oa_I2 → Int32 → Option (oa_I2)) (n : Nat) (x4 : Int32) (x6 : Int32) : Option (oa_I2) :=
  oa_fix (fun k => oa_u fun (x4 : Int32) (x6 : Int32) => b_X7_layWays_51 J M x1 x2 x3 x5 k2 k19 (fun x4 x6 => k (x4, x6)) x4 x6) n (x4, x6)
noncomputable def b_X7_layWays_19 (J : oa_J2) (x1 : Int32) (x2 : Int32) (k2 : oa_I2 → Int32 → Option (oa_I2)) (k19 : oa_I2 → Int32 → Option (oa_I2)) (M : oa_I2) (x3 : Int32) : Option (oa_I2) :=
  if 6 ≤ x3 then (
    k2 M (x1 + 1))
  else (
    if x1 = ((1 : Int32) <<< (x3 &&& 31)) then (
      oa_let (x1 &&& (((1 : Int32) <<< (x3 &&& 31)) ^^^ (-1))) fun (y12 : Int32) =>
      l_X7_layWays_51 J M x1 x2 x3 y12 k2 k19 oa_fu 1 0)
    else (
      oa_let (x1 &&& (((1 : Int32) <<< (x3 &&& 31)) ^^^ (-1))) fun (y10 : Int32) =>
      l_X7_layWays_51 J M x1 x2 x3 y10 k2 k19 oa_fu 0 0))
noncomputable def l_X7_layWays_19 (J : oa_J2) (x1 : Int32) (x2 : Int32) (k2 : oa_I2 → Int32 → Option (oa_I2)) (n : Nat) (M : oa_I2) (x3 : Int32) : Option (oa_I2) :=
  oa_fix (fun k => oa_u fun (M : oa_I2) (x3 : Int32) => b_X7_layWays_19 J x1 x2 k2 (fun M x3 => k (M, x3)) M x3) n (M, x3)
noncomputable def b_X7_layWays_2 (J : oa_J2)   (k2 : oa_I2 → Int32 → Option (oa_I2)) (M : oa_I2) (x1 : Int32) : Option (oa_I2) :=
  (f_X7_many M J).bind fun (y1 : Int32) =>
  if ((1 : Int32) <<< (y1 &&& 31)) ≤ x1 then (
    some (M))
  else (
    (f_X7_leastOf x1).bind fun (y5 : Int32) =>
    l_X7_layWays_19 J x1 y5 k2 oa_fu M 0)
noncomputable def l_X7_layWays_2 (J : oa_J2)   (n : Nat) (M : oa_I2) (x1 : Int32) : Option (oa_I2) :=
  oa_fix (fun k => oa_u fun (M : oa_I2) (x1 : Int32) => b_X7_layWays_2 J (fun M x1 => k (M, x1)) M x1) n (M, x1)
noncomputable def f_X7_layWays (M : oa_I2) (J : oa_J2)  : Option (oa_I2) :=
  l_X7_layWays_2 J oa_fu M 1
noncomputable def b_X7_likeliest_50 (M : oa_I2) (x1 : Int32)  (k20 : Int32 → Int32 → Option (Int32 × oa_J2)) (J : oa_J2) (x2 : Int32) (x3 : Int32) (s0 : Int64) (s1 : Int64) : Option (Int32 × oa_J2) :=
  if (lg_cmp s0 s1) ≤ 0 then (
    k20 x2 (x3 + 1))
  else (
    k20 x3 (x3 + 1))
noncomputable def b_X7_likeliest_20 (M : oa_I2) (x1 : Int32) (J : oa_J2)  (k20 : Int32 → Int32 → Option (Int32 × oa_J2)) (x2 : Int32) (x3 : Int32) : Option (Int32 × oa_J2) :=
  (f_X7_many M J).bind fun (y8 : Int32) =>
  if y8 ≤ x3 then (
    some (x2, J))
  else (
    (oa_rdL (J 0) 6 x3).bind fun (y12 : Int64) =>
    if x2 = (-4) then (
      b_X7_likeliest_50 M x1 k20 J x2 x3 y12 0)
    else (
      (oa_rdL (J 0) 6 x2).bind fun (y15 : Int64) =>
      b_X7_likeliest_50 M x1 k20 J x2 x3 y12 y15))
noncomputable def l_X7_likeliest_20 (M : oa_I2) (x1 : Int32) (J : oa_J2)  (n : Nat) (x2 : Int32) (x3 : Int32) : Option (Int32 × oa_J2) :=
  oa_fix (fun k => oa_u fun (x2 : Int32) (x3 : Int32) => b_X7_likeliest_20 M x1 J (fun x2 x3 => k (x2, x3)) x2 x3) n (x2, x3)
noncomputable def f_X7_likeliest (M : oa_I2) (J : oa_J2) (x1 : Int32) : Option (Int32 × oa_J2) :=
  (f_X7_isOne M J x1).bind fun (y1 : Int32) =>
  if y1 = 0 then (
    some ((-1), J))
  else (
    (f_X7_layChances M J x1).bind fun (J5 : oa_J2) =>
    l_X7_likeliest_20 M x1 J5 oa_fu (-4) 0)
noncomputable def b_X7_looksBehind_209 (J : oa_J2)   (M : oa_I2) (x2 : Int32) : Option (oa_I2) :=
  if (M 0 2) = 0 then (
    if x2 = 0 then (
      (f_X7_fails M J 7).bind fun (M18 : oa_I2) =>
      some (M18))
    else (
      some (M)))
  else (
    some (M))
noncomputable def b_X7_looksBehind_143 (J : oa_J2)  (k6 : Int32 → Int32 → Int32 → Option (oa_I2)) (k79 : Int32 → Int32 → Int32 → Option (oa_I2)) (M : oa_I2) (x2 : Int32) (x3 : Int32) (x5 : Int32) (x6 : Int32) (x7 : Int32) (s0 : Int32) : Option (oa_I2) :=
  if x7 = 0 then (
    oa_let (x5 + 0) fun (y38 : Int32) =>
    k79 s0 y38 (x6 + 1))
  else (
    oa_let (x5 + 1) fun (y40 : Int32) =>
    k79 s0 y40 (x6 + 1))
noncomputable def b_X7_looksBehind_109 (J : oa_J2)  (k6 : Int32 → Int32 → Int32 → Option (oa_I2)) (k79 : Int32 → Int32 → Int32 → Option (oa_I2)) (M : oa_I2) (x1 : Int32) (x2 : Int32) (x3 : Int32) (x5 : Int32) (x6 : Int32) (s0 : Int32) : Option (oa_I2) :=
  if x1 = 0 then (
    b_X7_looksBehind_143 J k6 k79 M x2 x3 x5 x6 s0 0)
  else (
    if s0 = 0 then (
      b_X7_looksBehind_143 J k6 k79 M x2 x3 x5 x6 s0 1)
    else (
      if x6 = x3 then (
        b_X7_looksBehind_143 J k6 k79 M x2 x3 x5 x6 s0 0)
      else (
        (oa_rd (M 4) 100 99).bind fun (y34 : Int32) =>
        if y34 ≤ x6 then (
          b_X7_looksBehind_143 J k6 k79 M x2 x3 x5 x6 s0 0)
        else (
          b_X7_looksBehind_143 J k6 k79 M x2 x3 x5 x6 s0 1))))
noncomputable def b_X7_looksBehind_79 (J : oa_J2) (M : oa_I2) (x2 : Int32) (x3 : Int32) (k6 : Int32 → Int32 → Int32 → Option (oa_I2)) (k79 : Int32 → Int32 → Int32 → Option (oa_I2)) (x1 : Int32) (x5 : Int32) (x6 : Int32) : Option (oa_I2) :=
  if 6 ≤ x6 then (
    if x2 = 0 then (
      k6 x1 0 (x3 + 1))
    else (
      (oa_rd (M 3) 3 0).bind fun (y25 : Int32) =>
      if y25 < x5 then (
        k6 x1 0 (x3 + 1))
      else (
        k6 x1 1 (x3 + 1))))
  else (
    (oa_rd (M 4) 100 ((48 + (7 * x3)) + x6)).bind fun (y28 : Int32) =>
    if y28 ≤ 0 then (
      b_X7_looksBehind_109 J k6 k79 M x1 x2 x3 x5 x6 0)
    else (
      b_X7_looksBehind_109 J k6 k79 M x1 x2 x3 x5 x6 1))
noncomputable def l_X7_looksBehind_79 (J : oa_J2) (M : oa_I2) (x2 : Int32) (x3 : Int32) (k6 : Int32 → Int32 → Int32 → Option (oa_I2)) (n : Nat) (x1 : Int32) (x5 : Int32) (x6 : Int32) : Option (oa_I2) :=
  oa_fix (fun k => oa_u fun (x1 : Int32) => oa_u fun (x5 : Int32) (x6 : Int32) => b_X7_looksBehind_79 J M x2 x3 k6 (fun x1 x5 x6 => k (x1, x5, x6)) x1 x5 x6) n (x1, x5, x6)
noncomputable def b_X7_looksBehind_58 (J : oa_J2)  (k6 : Int32 → Int32 → Int32 → Option (oa_I2)) (M : oa_I2) (x2 : Int32) (x3 : Int32) (s0 : Int32) : Option (oa_I2) :=
  (oa_rd (M 4) 100 ((48 + (7 * x3)) + 6)).bind fun (y21 : Int32) =>
  l_X7_looksBehind_79 J M x2 x3 k6 oa_fu s0 y21 0
noncomputable def b_X7_looksBehind_6 (J : oa_J2) (M : oa_I2)  (k6 : Int32 → Int32 → Int32 → Option (oa_I2)) (x1 : Int32) (x2 : Int32) (x3 : Int32) : Option (oa_I2) :=
  (oa_rd (M 4) 100 99).bind fun (y1 : Int32) =>
  if y1 ≤ x3 then (
    if (M 0 2) = 0 then (
      if x1 = 0 then (
        (f_X7_fails M J 6).bind fun (M6 : oa_I2) =>
        b_X7_looksBehind_209 J M6 x2)
      else (
        b_X7_looksBehind_209 J M x2))
    else (
      b_X7_looksBehind_209 J M x2))
  else (
    (oa_rd (M 4) 100 ((8 * x3) + 7)).bind fun (y9 : Int32) =>
    if x1 = 0 then (
      b_X7_looksBehind_58 J k6 M x2 x3 0)
    else (
      if y9 = x3 then (
        b_X7_looksBehind_58 J k6 M x2 x3 0)
      else (
        (oa_rd (M 4) 100 99).bind fun (y13 : Int32) =>
        if y13 ≤ y9 then (
          b_X7_looksBehind_58 J k6 M x2 x3 0)
        else (
          b_X7_looksBehind_58 J k6 M x2 x3 1))))
noncomputable def l_X7_looksBehind_6 (J : oa_J2) (M : oa_I2)  (n : Nat) (x1 : Int32) (x2 : Int32) (x3 : Int32) : Option (oa_I2) :=
  oa_fix (fun k => oa_u fun (x1 : Int32) => oa_u fun (x2 : Int32) (x3 : Int32) => b_X7_looksBehind_6 J M (fun x1 x2 x3 => k (x1, x2, x3)) x1 x2 x3) n (x1, x2, x3)
noncomputable def f_X7_looksBehind (M : oa_I2) (J : oa_J2)  : Option (oa_I2) :=
  l_X7_looksBehind_6 J M oa_fu 1 1 0
noncomputable def b_X7_lowest_17 (x0 : Int64) (x2 : Int64) (x4 : Int32)   (k17 : Int64 → Int64 → Option (Int64)) (x5 : Int64) (x7 : Int64) : Option (Int64) :=
  if (lg_cmp x7 0) = 0 then (
    if x4 = 0 then (
      if x5 = 0 then none else
      some ((x0 / x5)))
    else (
      if x5 = 0 then none else
      some ((x2 / x5))))
  else (
    if x7 = 0 then none else
    oa_let (x5 - x5 / x7 * x7) fun (y9 : Int64) =>
    k17 x7 y9)
noncomputable def l_X7_lowest_17 (x0 : Int64) (x2 : Int64) (x4 : Int32)   (n : Nat) (x5 : Int64) (x7 : Int64) : Option (Int64) :=
  oa_fix (fun k => oa_u fun (x5 : Int64) (x7 : Int64) => b_X7_lowest_17 x0 x2 x4 (fun x5 x7 => k (x5, x7)) x5 x7) n (x5, x7)
noncomputable def f_X7_lowest  (x0 : Int64) (x2 : Int64) (x4 : Int32) : Option (Int64) :=
  if 0 ≤ (lg_cmp x0 0) then (
    l_X7_lowest_17 x0 x2 x4 oa_fu x0 x2)
  else (
    oa_let (-x0) fun (y2 : Int64) =>
    l_X7_lowest_17 x0 x2 x4 oa_fu y2 x2)
noncomputable def f_X7_mean (M : oa_I2) (J : oa_J2) (x1 : Int32) (x2 : Int32) : Option (Int64 × oa_J2) :=
  (f_X7_isOne M J x1).bind fun (y1 : Int32) =>
  if y1 = 0 then (
    some ((-1000000), J))
  else (
    (f_X7_in (Int32.toInt64 x2) 0 1).bind fun (y5 : Int32) =>
    if y5 = 0 then (
      some ((-1000000), J))
    else (
      (f_X7_layChances M J x1).bind fun (J9 : oa_J2) =>
      (f_X7_lowest (J9 1 0) (J9 1 1) x2).bind fun (y12 : Int64) =>
      some (y12, J9)))
noncomputable def b_X7_nameHere_106 (M : oa_I2) (J : oa_J2)  (k2 : Int32 → Option (Int32)) (x1 : Int32) (x2 : Int32) : Option (Int32) :=
  if x2 = 0 then (
    k2 (x1 + 1))
  else (
    some (x1))
noncomputable def b_X7_nameHere_51 (M : oa_I2) (J : oa_J2) (x1 : Int32) (k2 : Int32 → Option (Int32)) (k51 : Int32 → Int32 → Option (Int32)) (x2 : Int32) (x3 : Int32) : Option (Int32) :=
  if x2 = 0 then (
    b_X7_nameHere_106 M J k2 x1 x2)
  else (
    if ((M 0 4) - (M 0 5)) ≤ x3 then (
      b_X7_nameHere_106 M J k2 x1 x2)
    else (
      (f_X7_byteAt M J ((M 0 5) + x3)).bind fun (y10 : Int32) =>
      (oa_rd (M 6) 14 x1).bind fun (y13 : Int32) =>
      (oa_rd (M 7) 53 (y13 + x3)).bind fun (y15 : Int32) =>
      if y10 = y15 then (
        k51 1 (x3 + 1))
      else (
        k51 0 (x3 + 1))))
noncomputable def l_X7_nameHere_51 (M : oa_I2) (J : oa_J2) (x1 : Int32) (k2 : Int32 → Option (Int32)) (n : Nat) (x2 : Int32) (x3 : Int32) : Option (Int32) :=
  oa_fix (fun k => oa_u fun (x2 : Int32) (x3 : Int32) => b_X7_nameHere_51 M J x1 k2 (fun x2 x3 => k (x2, x3)) x2 x3) n (x2, x3)
noncomputable def b_X7_nameHere_2 (M : oa_I2) (J : oa_J2)   (k2 : Int32 → Option (Int32)) (x1 : Int32) : Option (Int32) :=
  if 13 ≤ x1 then (
    some ((-4)))
  else (
    if (M 0 6) = 1 then (
      (oa_rd (M 6) 14 (x1 + 1)).bind fun (y3 : Int32) =>
      (oa_rd (M 6) 14 x1).bind fun (y5 : Int32) =>
      if ((M 0 4) - (M 0 5)) = (y3 - y5) then (
        l_X7_nameHere_51 M J x1 k2 oa_fu 1 0)
      else (
        l_X7_nameHere_51 M J x1 k2 oa_fu 0 0))
    else (
      some ((-4))))
noncomputable def l_X7_nameHere_2 (M : oa_I2) (J : oa_J2)   (n : Nat) (x1 : Int32) : Option (Int32) :=
  oa_fix (fun k => fun (x1 : Int32) => b_X7_nameHere_2 M J (fun x1 => k x1) x1) n x1
noncomputable def f_X7_nameHere (M : oa_I2) (J : oa_J2)  : Option (Int32) :=
  l_X7_nameHere_2 M J oa_fu 0
noncomputable def b_X7_now_4 (M : oa_I2) (J : oa_J2) (x1 : Int32)   (k4 : Int32 → Int32 → Option (Int32)) (x2 : Int32) (x3 : Int32) : Option (Int32) :=
  (f_X7_many M J).bind fun (y1 : Int32) =>
  if y1 ≤ x3 then (
    if x1 = 0 then (
      (oa_rd (M 1) 600 96).bind fun (y6 : Int32) =>
      some (y6))
    else (
    if x1 = 1 then (
      (oa_rd (M 1) 600 97).bind fun (y9 : Int32) =>
      some (y9))
    else (
    if x1 = 2 then (
      (oa_rd (M 1) 600 98).bind fun (y12 : Int32) =>
      some (y12))
    else (
    if x1 = 3 then (
      (f_X7_freeOnes M J 0).bind fun (y15 : Int32) =>
      some (y15))
    else (
    if x1 = 4 then (
      (f_X7_openCount M J 0).bind fun (y19 : Int32) =>
      if y19 = 0 then (
        some (1))
      else (
        some (0)))
    else (
    if x1 = 5 then (
      some (x2))
    else (
    some ((-1)))))))))
  else (
    (f_X7_angers M J 0 x3).bind fun (y24 : Int32) =>
    oa_let (x2 + y24) fun (y27 : Int32) =>
    k4 y27 (x3 + 1))
noncomputable def l_X7_now_4 (M : oa_I2) (J : oa_J2) (x1 : Int32)   (n : Nat) (x2 : Int32) (x3 : Int32) : Option (Int32) :=
  oa_fix (fun k => oa_u fun (x2 : Int32) (x3 : Int32) => b_X7_now_4 M J x1 (fun x2 x3 => k (x2, x3)) x2 x3) n (x2, x3)
noncomputable def f_X7_now (M : oa_I2) (J : oa_J2) (x1 : Int32) : Option (Int32) :=
  l_X7_now_4 M J x1 oa_fu 0 0
noncomputable def b_X7_step_201 (J : oa_J2)  (k140 : oa_I2 → Option (oa_I2)) (M : oa_I2) (s1 : Int32) : Option (oa_I2) :=
  oa_let (va_up M 0 (upd (M 0) 7 s1)) fun (M62 : oa_I2) =>
  oa_let (va_up M62 0 (upd (M62 0) 4 ((M62 0 4) + 1))) fun (M64 : oa_I2) =>
  k140 M64
noncomputable def b_X7_step_140 (J : oa_J2)   (k140 : oa_I2 → Option (oa_I2)) (M : oa_I2) : Option (oa_I2) :=
  (f_X7_byteAt M J (M 0 4)).bind fun (y34 : Int32) =>
  (f_X7_in (Int32.toInt64 y34) 48 57).bind fun (y37 : Int32) =>
  if y37 = 0 then (
    oa_let (va_up M 0 (upd (M 0) 6 2)) fun (M41 : oa_I2) =>
    if ((M41 0 4) - (M41 0 5)) ≤ 3 then (
      some (M41))
    else (
      (f_X7_fails M41 J 1).bind fun (M44 : oa_I2) =>
      some (M44)))
  else (
    if 3 ≤ ((M 0 4) - (M 0 5)) then (
      b_X7_step_201 J k140 M (M 0 7))
    else (
      (f_X7_byteAt M J (M 0 4)).bind fun (y48 : Int32) =>
      b_X7_step_201 J k140 M (((10 * (M 0 7)) + y48) - 48)))
noncomputable def l_X7_step_140 (J : oa_J2)   (n : Nat) (M : oa_I2) : Option (oa_I2) :=
  oa_fix (fun k => fun (M : oa_I2) => b_X7_step_140 J (fun M => k M) M) n M
noncomputable def b_X7_step_84 (J : oa_J2)   (k84 : oa_I2 → Option (oa_I2)) (M : oa_I2) : Option (oa_I2) :=
  (f_X7_byteAt M J (M 0 4)).bind fun (y51 : Int32) =>
  (f_X7_in (Int32.toInt64 y51) 97 122).bind fun (y54 : Int32) =>
  if y54 = 0 then (
    oa_let (va_up M 0 (upd (M 0) 6 1)) fun (M58 : oa_I2) =>
    some (M58))
  else (
    oa_let (va_up M 0 (upd (M 0) 4 ((M 0 4) + 1))) fun (M60 : oa_I2) =>
    k84 M60)
noncomputable def l_X7_step_84 (J : oa_J2)   (n : Nat) (M : oa_I2) : Option (oa_I2) :=
  oa_fix (fun k => fun (M : oa_I2) => b_X7_step_84 J (fun M => k M) M) n M
noncomputable def b_X7_step_8 (J : oa_J2)   (k8 : oa_I2 → Option (oa_I2)) (M : oa_I2) : Option (oa_I2) :=
  (f_X7_byteAt M J (M 0 4)).bind fun (y2 : Int32) =>
  if y2 = 32 then (
    oa_let (va_up M 0 (upd (M 0) 4 ((M 0 4) + 1))) fun (M32 : oa_I2) =>
    k8 M32)
  else (
    oa_let (va_up M 0 (upd (M 0) 5 (M 0 4))) fun (M6 : oa_I2) =>
    (f_X7_byteAt M6 J (M6 0 4)).bind fun (y8 : Int32) =>
    oa_let (va_up M6 0 (upd (M6 0) 7 0)) fun (M11 : oa_I2) =>
    if y8 = (-4) then (
      oa_let (va_up M11 0 (upd (M11 0) 6 0)) fun (M30 : oa_I2) =>
      some (M30))
    else (
      (f_X7_in (Int32.toInt64 y8) 97 122).bind fun (y14 : Int32) =>
      if y14 = 0 then (
        (f_X7_in (Int32.toInt64 y8) 48 57).bind fun (y18 : Int32) =>
        if y18 = 0 then (
          oa_let (va_up M11 0 (upd (M11 0) 6 3)) fun (M22 : oa_I2) =>
          oa_let (va_up M22 0 (upd (M22 0) 4 ((M22 0 4) + 1))) fun (M24 : oa_I2) =>
          if y8 = 59 then (
            some (M24))
          else (
            (f_X7_fails M24 J 1).bind fun (M27 : oa_I2) =>
            some (M27)))
        else (
          l_X7_step_140 J oa_fu M11))
      else (
        l_X7_step_84 J oa_fu M11)))
noncomputable def l_X7_step_8 (J : oa_J2)   (n : Nat) (M : oa_I2) : Option (oa_I2) :=
  oa_fix (fun k => fun (M : oa_I2) => b_X7_step_8 J (fun M => k M) M) n M
noncomputable def f_X7_step (M : oa_I2) (J : oa_J2)  : Option (oa_I2) :=
  if (M 0 2) ≤ 0 then (
    l_X7_step_8 J oa_fu M)
  else (
    some (M))
noncomputable def b_X7_number_62 (J : oa_J2) (x1 : Int32) (x2 : Int32)   (M : oa_I2) (s0 : Int32) : Option (Int32 × oa_I2) :=
  (f_X7_step M J).bind fun (M15 : oa_I2) =>
  some (s0, M15)
noncomputable def b_X7_number_47 (J : oa_J2) (x1 : Int32) (x2 : Int32)   (M : oa_I2) : Option (Int32 × oa_I2) :=
  if (M 0 2) = 0 then (
    b_X7_number_62 J x1 x2 M (M 0 7))
  else (
    b_X7_number_62 J x1 x2 M x1)
noncomputable def b_X7_number_20 (J : oa_J2) (x1 : Int32) (x2 : Int32)   (M : oa_I2) : Option (Int32 × oa_I2) :=
  if (M 0 2) = 0 then (
    (f_X7_in (Int32.toInt64 (M 0 7)) (Int32.toInt64 x1) (Int32.toInt64 x2)).bind fun (y7 : Int32) =>
    if y7 = 0 then (
      (f_X7_fails M J 3).bind fun (M11 : oa_I2) =>
      b_X7_number_47 J x1 x2 M11)
    else (
      b_X7_number_47 J x1 x2 M))
  else (
    b_X7_number_47 J x1 x2 M)
noncomputable def f_X7_number (M : oa_I2) (J : oa_J2) (x1 : Int32) (x2 : Int32) : Option (Int32 × oa_I2) :=
  if (M 0 2) = 0 then (
    if (M 0 6) = 2 then (
      b_X7_number_20 J x1 x2 M)
    else (
      (f_X7_fails M J 2).bind fun (M3 : oa_I2) =>
      b_X7_number_20 J x1 x2 M3))
  else (
    b_X7_number_20 J x1 x2 M)
noncomputable def f_X7_odds (M : oa_I2) (J : oa_J2) (x1 : Int32) (x2 : Int32) (x3 : Int32) : Option (Int64 × oa_J2) :=
  (f_X7_isWrong M J x1 x2).bind fun (y1 : Int32) =>
  if y1 = 0 then (
    some ((-1), J))
  else (
    (f_X7_in (Int32.toInt64 x3) 0 1).bind fun (y5 : Int32) =>
    if y5 = 0 then (
      some ((-1), J))
    else (
      (f_X7_layChances M J x1).bind fun (J9 : oa_J2) =>
      (oa_rdL (J9 0) 6 x2).bind fun (y12 : Int64) =>
      (f_X7_lowest y12 (J9 1 1) x3).bind fun (y14 : Int64) =>
      some (y14, J9)))
noncomputable def f_X7_old (M : oa_I2) (J : oa_J2) (x1 : Int32) (x2 : Int32) : Option (Int32) :=
  (f_X7_isWrong M J x1 x2).bind fun (y1 : Int32) =>
  if y1 = 0 then (
    some ((-1)))
  else (
    (f_X7_age M J 0 x1 x2).bind fun (y5 : Int32) =>
    if y5 = 0 then (
      some ((-4)))
    else (
      (f_X7_age M J 0 x1 x2).bind fun (y9 : Int32) =>
      some ((y9 - 1))))
noncomputable def f_X7_one (M : oa_I2) (J : oa_J2) (x1 : Int32) (x2 : Int32) : Option (Int32) :=
  (f_X7_isOne M J x1).bind fun (y1 : Int32) =>
  if y1 = 0 then (
    some ((-1)))
  else (
    if x2 = 8 then (
      (f_X7_angerBits M J x1).bind fun (y6 : Int32) =>
      some (y6))
    else (
    if x2 = 9 then (
      (f_X7_isFree M J 0 x1).bind fun (y10 : Int32) =>
      if y10 = 0 then (
        some (0))
      else (
        some (1)))
    else (
    if x2 = 10 then (
      (f_X7_cost M J 0 x1).bind fun (y15 : Int32) =>
      some (y15))
    else (
    (f_X7_in (Int32.toInt64 x2) 0 7).bind fun (y18 : Int32) =>
    if y18 = 0 then (
      some ((-1)))
    else (
      (oa_rd (M 1) 600 ((8 * x1) + x2)).bind fun (y22 : Int32) =>
      some (y22))))))
noncomputable def b_X7_open_23 (M : oa_I2) (J : oa_J2) (x3 : Int32) (x4 : Int32) (k11 : Int64 → Int32 → Option (Int64)) (k23 : Int64 → Int32 → Option (Int64)) (x1 : Int64) (x5 : Int32) : Option (Int64) :=
  (f_X7_many M J).bind fun (y8 : Int32) =>
  if y8 ≤ x5 then (
    k11 x1 (x4 + 1))
  else (
    if x5 = x4 then (
      oa_let (x1 ||| 0) fun (y13 : Int64) =>
      k23 y13 (x5 + 1))
    else (
      (f_X7_worthBy M J 0 x4 x5 x3).bind fun (y15 : Int32) =>
      if y15 ≤ 0 then (
        oa_let (x1 ||| 0) fun (y19 : Int64) =>
        k23 y19 (x5 + 1))
      else (
        oa_let (x1 ||| ((1 : Int64) <<< (Int32.toInt64 ((6 * x4) + x5) &&& 63))) fun (y21 : Int64) =>
        k23 y21 (x5 + 1))))
noncomputable def l_X7_open_23 (M : oa_I2) (J : oa_J2) (x3 : Int32) (x4 : Int32) (k11 : Int64 → Int32 → Option (Int64)) (n : Nat) (x1 : Int64) (x5 : Int32) : Option (Int64) :=
  oa_fix (fun k => oa_u fun (x1 : Int64) (x5 : Int32) => b_X7_open_23 M J x3 x4 k11 (fun x1 x5 => k (x1, x5)) x1 x5) n (x1, x5)
noncomputable def b_X7_open_11 (M : oa_I2) (J : oa_J2) (x3 : Int32)  (k11 : Int64 → Int32 → Option (Int64)) (x1 : Int64) (x4 : Int32) : Option (Int64) :=
  (f_X7_many M J).bind fun (y4 : Int32) =>
  if y4 ≤ x4 then (
    some (x1))
  else (
    l_X7_open_23 M J x3 x4 k11 oa_fu x1 0)
noncomputable def l_X7_open_11 (M : oa_I2) (J : oa_J2) (x3 : Int32)  (n : Nat) (x1 : Int64) (x4 : Int32) : Option (Int64) :=
  oa_fix (fun k => oa_u fun (x1 : Int64) (x4 : Int32) => b_X7_open_11 M J x3 (fun x1 x4 => k (x1, x4)) x1 x4) n (x1, x4)
noncomputable def f_X7_open (M : oa_I2) (J : oa_J2)  : Option (Int64) :=
  (f_X7_seenFree M J 0).bind fun (y1 : Int32) =>
  l_X7_open_11 M J y1 oa_fu 0 0
noncomputable def b_X7_peace_7 (J : oa_J2)   (k7 : oa_I2 → Int32 → Option (Int32 × oa_I2)) (M : oa_I2) (x1 : Int32) : Option (Int32 × oa_I2) :=
  if 99 ≤ x1 then (
    some ((-4), M))
  else (
    (f_X7_week M J 360).bind fun (M5 : oa_I2) =>
    if (M5 0 9) = 0 then (
      some (x1, M5))
    else (
      k7 M5 (x1 + 1)))
noncomputable def l_X7_peace_7 (J : oa_J2)   (n : Nat) (M : oa_I2) (x1 : Int32) : Option (Int32 × oa_I2) :=
  oa_fix (fun k => oa_u fun (M : oa_I2) (x1 : Int32) => b_X7_peace_7 J (fun M x1 => k (M, x1)) M x1) n (M, x1)
noncomputable def f_X7_peace (M : oa_I2) (J : oa_J2)  : Option (Int32 × oa_I2) :=
  (f_X7_tries M J 0).bind fun (M1 : oa_I2) =>
  l_X7_peace_7 J oa_fu M1 0
noncomputable def f_X7_pointing (M : oa_I2) (J : oa_J2) (x1 : Int32) (x2 : Int32) : Option (Int32 × oa_I2) :=
  (f_X7_isWhom M J x1 x2).bind fun (y1 : Int32) =>
  if y1 = 0 then (
    some ((-1), M))
  else (
    (f_X7_age M J 0 x1 x2).bind fun (y5 : Int32) =>
    if y5 ≤ 0 then (
      (f_X7_isFree M J 0 x1).bind fun (y9 : Int32) =>
      if y9 = 0 then (
        some ((-3), M))
      else (
        (oa_wr (M 1) 600 ((48 + (7 * x1)) + x2) 1).bind fun (g13 : Nat → Int32) =>
        oa_let (va_up M 1 g13) fun (M15 : oa_I2) =>
        (f_X7_angers M15 J 0 x1).bind fun (y17 : Int32) =>
        some (y17, M15)))
    else (
      some ((-2), M)))
noncomputable def f_X7_point (M : oa_I2) (J : oa_J2) (x1 : Int32) (x2 : Int32) : Option (Int32 × oa_I2) :=
  (f_X7_pointing M J x1 x2).bind <| oa_u fun (y1 : Int32) (M2 : oa_I2) =>
  some (y1, M2)
noncomputable def b_X7_price_12 (M : oa_I2) (J : oa_J2) (x1 : Int32)   (k12 : Int32 → Option (Int32)) (x2 : Int32) : Option (Int32) :=
  if 100 ≤ x2 then (
    some ((-4)))
  else (
    (f_X7_openWith M J x2 x1 1).bind fun (y6 : Int32) =>
    if y6 = 0 then (
      some (x2))
    else (
      k12 (x2 + 1)))
noncomputable def l_X7_price_12 (M : oa_I2) (J : oa_J2) (x1 : Int32)   (n : Nat) (x2 : Int32) : Option (Int32) :=
  oa_fix (fun k => fun (x2 : Int32) => b_X7_price_12 M J x1 (fun x2 => k x2) x2) n x2
noncomputable def f_X7_price (M : oa_I2) (J : oa_J2) (x1 : Int32) : Option (Int32) :=
  (f_X7_isOne M J x1).bind fun (y1 : Int32) =>
  if y1 = 0 then (
    some ((-1)))
  else (
    l_X7_price_12 M J x1 oa_fu 0)
noncomputable def f_X7_resting (M : oa_I2) (J : oa_J2) (x1 : Int32) (x2 : Int32) : Option (Int32 × oa_I2) :=
  (f_X7_isWhom M J x1 x2).bind fun (y1 : Int32) =>
  if y1 = 0 then (
    some ((-1), M))
  else (
    (f_X7_age M J 0 x1 x2).bind fun (y5 : Int32) =>
    if y5 = 0 then (
      some ((-4), M))
    else (
      (oa_wr (M 1) 600 ((48 + (7 * x1)) + x2) 0).bind fun (g9 : Nat → Int32) =>
      oa_let (va_up M 1 g9) fun (M11 : oa_I2) =>
      (f_X7_angers M11 J 0 x1).bind fun (y13 : Int32) =>
      some (y13, M11)))
noncomputable def b_X7_read_214 (J : oa_J2) (x1 : Int32) (x2 : Int32) (x3 : Int32) (x4 : Int32) (x6 : Int32)  (k214 : oa_I2 → Int32 → Option (Int32 × oa_I2)) (M : oa_I2) (x8 : Int32) : Option (Int32 × oa_I2) :=
  if x6 ≤ x8 then (
    some (((-20) - x6), M))
  else (
    (oa_rd (M 14) 160 (((40 * x1) + x3) + (2 * x8))).bind fun (y43 : Int32) =>
    (oa_rd (M 14) 160 ((((40 * x1) + x3) + (2 * x8)) + 1)).bind fun (y45 : Int32) =>
    (f_X7_resting M J y43 y45).bind <| oa_u fun (y47 : Int32) (M48 : oa_I2) =>
    k214 M48 (x8 + 1))
noncomputable def l_X7_read_214 (J : oa_J2) (x1 : Int32) (x2 : Int32) (x3 : Int32) (x4 : Int32) (x6 : Int32)  (n : Nat) (M : oa_I2) (x8 : Int32) : Option (Int32 × oa_I2) :=
  oa_fix (fun k => oa_u fun (M : oa_I2) (x8 : Int32) => b_X7_read_214 J x1 x2 x3 x4 x6 (fun M x8 => k (M, x8)) M x8) n (M, x8)
noncomputable def b_X7_read_206 (J : oa_J2) (x1 : Int32) (x2 : Int32) (x3 : Int32) (x4 : Int32)   (M : oa_I2) (x5 : Int32) (x6 : Int32) (x7 : Int32) : Option (Int32 × oa_I2) :=
  if x7 = 0 then (
    oa_let (va_up M 0 (upd (M 0) 10 x5)) fun (M29 : oa_I2) =>
    some (x6, M29))
  else (
    l_X7_read_214 J x1 x2 x3 x4 x6 oa_fu M 0)
noncomputable def b_X7_read_183 (J : oa_J2) (x1 : Int32) (x2 : Int32) (x3 : Int32) (x4 : Int32)  (k51 : oa_I2 → Int32 → Int32 → Int32 → Int32 → Option (Int32 × oa_I2)) (M : oa_I2) (x5 : Int32) (x6 : Int32) (x8 : Int32) (s0 : Int32) : Option (Int32 × oa_I2) :=
  if s0 = 0 then (
    oa_let (x6 + 1) fun (y52 : Int32) =>
    k51 M x5 y52 s0 (x8 + 1))
  else (
    oa_let (x6 + 0) fun (y54 : Int32) =>
    k51 M x5 y54 s0 (x8 + 1))
noncomputable def b_X7_read_126 (J : oa_J2) (x1 : Int32) (x2 : Int32) (x3 : Int32) (x4 : Int32)  (k51 : oa_I2 → Int32 → Int32 → Int32 → Int32 → Option (Int32 × oa_I2)) (M : oa_I2) (x6 : Int32) (x7 : Int32) (x8 : Int32) (s0 : Int32) : Option (Int32 × oa_I2) :=
  if s0 = 0 then (
    if (x8 - x8 / 2 * 2) = 1 then (
      (oa_rd (M 14) 160 ((((40 * x1) + x3) + x8) - 1)).bind fun (y33 : Int32) =>
      (oa_rd (M 14) 160 (((40 * x1) + x3) + x8)).bind fun (y35 : Int32) =>
      (f_X7_pointing M J y33 y35).bind <| oa_u fun (y37 : Int32) (M38 : oa_I2) =>
      if 0 ≤ y37 then (
        b_X7_read_183 J x1 x2 x3 x4 k51 M38 s0 x6 x8 0)
      else (
        b_X7_read_183 J x1 x2 x3 x4 k51 M38 s0 x6 x8 1))
    else (
      k51 M s0 x6 x7 (x8 + 1)))
  else (
    k51 M s0 x6 x7 (x8 + 1))
noncomputable def b_X7_read_51 (J : oa_J2) (x1 : Int32) (x2 : Int32) (x3 : Int32) (x4 : Int32)   (k51 : oa_I2 → Int32 → Int32 → Int32 → Int32 → Option (Int32 × oa_I2)) (M : oa_I2) (x5 : Int32) (x6 : Int32) (x7 : Int32) (x8 : Int32) : Option (Int32 × oa_I2) :=
  if (2 * x4) ≤ x8 then (
    b_X7_read_206 J x1 x2 x3 x4 M x5 x6 x7)
  else (
    if x5 = 0 then (
      if x7 = 0 then (
        (oa_rd (M 12) 4 x1).bind fun (y16 : Int32) =>
        if y16 = (-4) then (
          b_X7_read_126 J x1 x2 x3 x4 k51 M x6 x7 x8 1)
        else (
          (oa_rd (M 12) 4 x1).bind fun (y19 : Int32) =>
          if y19 = x2 then (
            (oa_rd (M 13) 4 x1).bind fun (y22 : Int32) =>
            (f_X7_in ((Int32.toInt64 x3) + (Int32.toInt64 x8)) 0 (Int32.toInt64 (y22 - 1))).bind fun (y24 : Int32) =>
            if y24 = 0 then (
              b_X7_read_126 J x1 x2 x3 x4 k51 M x6 x7 x8 2)
            else (
              b_X7_read_126 J x1 x2 x3 x4 k51 M x6 x7 x8 0))
          else (
            b_X7_read_126 J x1 x2 x3 x4 k51 M x6 x7 x8 3)))
      else (
        b_X7_read_206 J x1 x2 x3 x4 M x5 x6 x7))
    else (
      b_X7_read_206 J x1 x2 x3 x4 M x5 x6 x7))
noncomputable def l_X7_read_51 (J : oa_J2) (x1 : Int32) (x2 : Int32) (x3 : Int32) (x4 : Int32)   (n : Nat) (M : oa_I2) (x5 : Int32) (x6 : Int32) (x7 : Int32) (x8 : Int32) : Option (Int32 × oa_I2) :=
  oa_fix (fun k => oa_u fun (M : oa_I2) => oa_u fun (x5 : Int32) => oa_u fun (x6 : Int32) => oa_u fun (x7 : Int32) (x8 : Int32) => b_X7_read_51 J x1 x2 x3 x4 (fun M x5 x6 x7 x8 => k (M, x5, x6, x7, x8)) M x5 x6 x7 x8) n (M, x5, x6, x7, x8)
noncomputable def f_X7_read (M : oa_I2) (J : oa_J2) (x1 : Int32) (x2 : Int32) (x3 : Int32) (x4 : Int32) : Option (Int32 × oa_I2) :=
  (f_X7_in (Int32.toInt64 x1) 0 3).bind fun (y1 : Int32) =>
  if y1 = 0 then (
    some ((-1), M))
  else (
    (f_X7_in (Int32.toInt64 x2) 0 2).bind fun (y5 : Int32) =>
    if y5 = 0 then (
      some ((-1), M))
    else (
      (f_X7_in (Int32.toInt64 x4) 0 12).bind fun (y9 : Int32) =>
      if y9 = 0 then (
        some ((-1), M))
      else (
        l_X7_read_51 J x1 x2 x3 x4 oa_fu M 0 0 0 0)))
noncomputable def f_X7_readWith (M : oa_I2) (J : oa_J2) (x1 : Int32) (x2 : Int32) : Option (oa_I2) :=
  (f_X7_step M J).bind fun (M1 : oa_I2) =>
  if x2 = 9 then (
    (f_X7_number M1 J 0 20).bind <| oa_u fun (y27 : Int32) (M28 : oa_I2) =>
    (oa_wr (M28 4) 100 ((8 * x1) + 6) y27).bind fun (g31 : Nat → Int32) =>
    oa_let (va_up M28 4 g31) fun (M33 : oa_I2) =>
    some (M33))
  else (
    if x2 = 10 then (
      (f_X7_number M1 J 0 5).bind <| oa_u fun (y19 : Int32) (M20 : oa_I2) =>
      (oa_wr (M20 4) 100 ((8 * x1) + 7) y19).bind fun (g23 : Nat → Int32) =>
      oa_let (va_up M20 4 g23) fun (M25 : oa_I2) =>
      some (M25))
    else (
      if x2 = 11 then (
        (f_X7_number M1 J 0 5).bind <| oa_u fun (y11 : Int32) (M12 : oa_I2) =>
        (oa_wr (M12 4) 100 ((48 + (7 * x1)) + y11) 1).bind fun (g15 : Nat → Int32) =>
        oa_let (va_up M12 4 g15) fun (M17 : oa_I2) =>
        some (M17))
      else (
        (oa_wr (M1 4) 100 ((48 + (7 * x1)) + 6) 1).bind fun (g7 : Nat → Int32) =>
        oa_let (va_up M1 4 g7) fun (M9 : oa_I2) =>
        some (M9))))
noncomputable def b_X7_readOne_188 (J : oa_J2)   (M : oa_I2) : Option (oa_I2) :=
  (oa_rd (M 4) 100 99).bind fun (y57 : Int32) =>
  (oa_wr (M 4) 100 99 (y57 + 1)).bind fun (g59 : Nat → Int32) =>
  oa_let (va_up M 4 g59) fun (M61 : oa_I2) =>
  some (M61)
noncomputable def b_X7_readOne_165 (J : oa_J2)  (k136 : oa_I2 → Int32 → Int32 → Option (oa_I2)) (M : oa_I2) (x1 : Int32) (x3 : Int32) (x4 : Int32) : Option (oa_I2) :=
  oa_let (x3 ||| ((1 : Int32) <<< (x4 &&& 31))) fun (y63 : Int32) =>
  (f_X7_readWith M J x1 x4).bind fun (M65 : oa_I2) =>
  (f_X7_nameHere M65 J).bind fun (y68 : Int32) =>
  k136 M65 y63 y68
noncomputable def b_X7_readOne_136 (J : oa_J2) (x1 : Int32)  (k136 : oa_I2 → Int32 → Int32 → Option (oa_I2)) (M : oa_I2) (x3 : Int32) (x4 : Int32) : Option (oa_I2) :=
  if (M 0 2) = 0 then (
    if x4 < 9 then (
      b_X7_readOne_188 J M)
    else (
      if ((x3 >>> (x4 &&& 31)) &&& 1) = 1 then (
        (f_X7_fails M J 4).bind fun (M54 : oa_I2) =>
        b_X7_readOne_165 J k136 M54 x1 x3 x4)
      else (
        b_X7_readOne_165 J k136 M x1 x3 x4)))
  else (
    b_X7_readOne_188 J M)
noncomputable def l_X7_readOne_136 (J : oa_J2) (x1 : Int32)  (n : Nat) (M : oa_I2) (x3 : Int32) (x4 : Int32) : Option (oa_I2) :=
  oa_fix (fun k => oa_u fun (M : oa_I2) => oa_u fun (x3 : Int32) (x4 : Int32) => b_X7_readOne_136 J x1 (fun M x3 x4 => k (M, x3, x4)) M x3 x4) n (M, x3, x4)
noncomputable def b_X7_readOne_68 (J : oa_J2) (x1 : Int32)  (k68 : oa_I2 → Int32 → Option (oa_I2)) (M : oa_I2) (x3 : Int32) : Option (oa_I2) :=
  if 4 < x3 then (
    (f_X7_number M J 1 4).bind <| oa_u fun (y28 : Int32) (M29 : oa_I2) =>
    (oa_wr (M29 4) 100 ((8 * x1) + 5) y28).bind fun (g32 : Nat → Int32) =>
    oa_let (va_up M29 4 g32) fun (M34 : oa_I2) =>
    (oa_wr (M34 4) 100 ((8 * x1) + 7) (-4)).bind fun (g36 : Nat → Int32) =>
    oa_let (va_up M34 4 g36) fun (M38 : oa_I2) =>
    (f_X7_nameHere M38 J).bind fun (y40 : Int32) =>
    l_X7_readOne_136 J x1 oa_fu M38 0 y40)
  else (
    (f_X7_number M J 0 20).bind <| oa_u fun (y43 : Int32) (M44 : oa_I2) =>
    (oa_wr (M44 4) 100 ((8 * x1) + x3) y43).bind fun (g47 : Nat → Int32) =>
    oa_let (va_up M44 4 g47) fun (M49 : oa_I2) =>
    k68 M49 (x3 + 1))
noncomputable def l_X7_readOne_68 (J : oa_J2) (x1 : Int32)  (n : Nat) (M : oa_I2) (x3 : Int32) : Option (oa_I2) :=
  oa_fix (fun k => oa_u fun (M : oa_I2) (x3 : Int32) => b_X7_readOne_68 J x1 (fun M x3 => k (M, x3)) M x3) n (M, x3)
noncomputable def b_X7_readOne_48 (J : oa_J2)   (M : oa_I2) (x1 : Int32) (x2 : Int32) : Option (oa_I2) :=
  (f_X7_step M J).bind fun (M20 : oa_I2) =>
  (oa_wr (M20 4) 100 ((8 * x1) + 0) (x2 - 4)).bind fun (g23 : Nat → Int32) =>
  oa_let (va_up M20 4 g23) fun (M25 : oa_I2) =>
  l_X7_readOne_68 J x1 oa_fu M25 1
noncomputable def f_X7_readOne (M : oa_I2) (J : oa_J2)  : Option (oa_I2) :=
  (oa_rd (M 4) 100 99).bind fun (y1 : Int32) =>
  if y1 = 6 then (
    (f_X7_fails M J 5).bind fun (M17 : oa_I2) =>
    some (M17))
  else (
    (f_X7_step M J).bind fun (M4 : oa_I2) =>
    (f_X7_nameHere M4 J).bind fun (y7 : Int32) =>
    (f_X7_in (Int32.toInt64 y7) 4 8).bind fun (y10 : Int32) =>
    if y10 = 0 then (
      (f_X7_fails M4 J 2).bind fun (M14 : oa_I2) =>
      b_X7_readOne_48 J M14 y1 y7)
    else (
      b_X7_readOne_48 J M4 y1 y7))
noncomputable def b_X7_readLine_131 (J : oa_J2)   (M : oa_I2) : Option (oa_I2) :=
  (f_X7_step M J).bind fun (M47 : oa_I2) =>
  some (M47)
noncomputable def b_X7_readLine_111 (J : oa_J2)   (M : oa_I2) : Option (oa_I2) :=
  if (M 0 2) = 0 then (
    if (M 0 6) = 3 then (
      b_X7_readLine_131 J M)
    else (
      (f_X7_fails M J 2).bind fun (M40 : oa_I2) =>
      b_X7_readLine_131 J M40))
  else (
    b_X7_readLine_131 J M)
noncomputable def b_X7_readLine_110 (J : oa_J2)   (M : oa_I2) (s1 : Int32) (s2 : Int32) : Option (oa_I2) :=
  (oa_wr (M 3) 3 s1 s2).bind fun (g43 : Nat → Int32) =>
  oa_let (va_up M 3 g43) fun (M45 : oa_I2) =>
  b_X7_readLine_111 J M45
noncomputable def b_X7_readLine_51 (J : oa_J2)   (M : oa_I2) (x1 : Int32) : Option (oa_I2) :=
  oa_let (va_up M 0 (upd (M 0) 8 ((M 0 8) ||| ((1 : Int32) <<< (x1 &&& 31))))) fun (M19 : oa_I2) =>
  (f_X7_step M19 J).bind fun (M21 : oa_I2) =>
  if x1 = 1 then (
    (f_X7_number M21 J 1 2).bind <| oa_u fun (y34 : Int32) (M35 : oa_I2) =>
    b_X7_readLine_110 J M35 (x1 - 1) y34)
  else (
    if x1 = 3 then (
      (f_X7_number M21 J 0 10).bind <| oa_u fun (y30 : Int32) (M31 : oa_I2) =>
      b_X7_readLine_110 J M31 (x1 - 1) y30)
    else (
      (f_X7_number M21 J 1 9).bind <| oa_u fun (y26 : Int32) (M27 : oa_I2) =>
      b_X7_readLine_110 J M27 (x1 - 1) y26))
noncomputable def f_X7_readLine (M : oa_I2) (J : oa_J2)  : Option (oa_I2) :=
  (f_X7_nameHere M J).bind fun (y1 : Int32) =>
  (f_X7_in (Int32.toInt64 y1) 0 3).bind fun (y4 : Int32) =>
  if y4 = 0 then (
    (f_X7_fails M J 2).bind fun (M16 : oa_I2) =>
    some (M16))
  else (
    if y1 = 0 then (
      (f_X7_readOne M J).bind fun (M13 : oa_I2) =>
      b_X7_readLine_111 J M13)
    else (
      if (((M 0 8) >>> (y1 &&& 31)) &&& 1) = 1 then (
        (f_X7_fails M J 4).bind fun (M10 : oa_I2) =>
        b_X7_readLine_51 J M10 y1)
      else (
        b_X7_readLine_51 J M y1)))
noncomputable def f_X7_rest (M : oa_I2) (J : oa_J2) (x1 : Int32) (x2 : Int32) : Option (Int32 × oa_I2) :=
  (f_X7_resting M J x1 x2).bind <| oa_u fun (y1 : Int32) (M2 : oa_I2) =>
  some (y1, M2)
noncomputable def b_X7_ring_80 (J : oa_J2) (x1 : Int32)  (k27 : Int32 → Int32 → Int32 → Option (Int32 × oa_I2)) (M : oa_I2) (x3 : Int32) (x4 : Int32) (s0 : Int32) : Option (Int32 × oa_I2) :=
  if x3 = (-4) then (
    k27 s0 x4 (x4 + 1))
  else (
    (f_X7_bitsOf x4).bind fun (y38 : Int32) =>
    (f_X7_bitsOf x3).bind fun (y41 : Int32) =>
    if y38 ≤ y41 then (
      k27 s0 x3 (x4 + 1))
    else (
      k27 s0 x4 (x4 + 1)))
noncomputable def b_X7_ring_27 (J : oa_J2) (x1 : Int32) (M : oa_I2)  (k27 : Int32 → Int32 → Int32 → Option (Int32 × oa_I2)) (x2 : Int32) (x3 : Int32) (x4 : Int32) : Option (Int32 × oa_I2) :=
  (f_X7_many M J).bind fun (y8 : Int32) =>
  if ((1 : Int32) <<< (y8 &&& 31)) ≤ x4 then (
    if x2 = (-4) then (
      some ((-4), M))
    else (
      if x1 = 0 then (
        (f_X7_bitsOf x2).bind fun (y18 : Int32) =>
        some (y18, M))
      else (
        if x1 = 1 then (
          (f_X7_bitsOf x3).bind fun (y15 : Int32) =>
          some (y15, M))
        else (
          some (x2, M)))))
  else (
    (f_X7_bitsOf x4).bind fun (y21 : Int32) =>
    if y21 ≤ 1 then (
      k27 x2 x3 (x4 + 1))
    else (
      (f_X7_isRing M J x4).bind fun (y25 : Int32) =>
      if y25 = 0 then (
        k27 x2 x3 (x4 + 1))
      else (
        if x2 = (-4) then (
          b_X7_ring_80 J x1 k27 M x3 x4 x4)
        else (
          (f_X7_bitsOf x4).bind fun (y30 : Int32) =>
          (f_X7_bitsOf x2).bind fun (y33 : Int32) =>
          if y33 ≤ y30 then (
            b_X7_ring_80 J x1 k27 M x3 x4 x2)
          else (
            b_X7_ring_80 J x1 k27 M x3 x4 x4)))))
noncomputable def l_X7_ring_27 (J : oa_J2) (x1 : Int32) (M : oa_I2)  (n : Nat) (x2 : Int32) (x3 : Int32) (x4 : Int32) : Option (Int32 × oa_I2) :=
  oa_fix (fun k => oa_u fun (x2 : Int32) => oa_u fun (x3 : Int32) (x4 : Int32) => b_X7_ring_27 J x1 M (fun x2 x3 x4 => k (x2, x3, x4)) x2 x3 x4) n (x2, x3, x4)
noncomputable def f_X7_ring (M : oa_I2) (J : oa_J2) (x1 : Int32) : Option (Int32 × oa_I2) :=
  (f_X7_in (Int32.toInt64 x1) 0 2).bind fun (y1 : Int32) =>
  if y1 = 0 then (
    some ((-1), M))
  else (
    (f_X7_layWays M J).bind fun (M5 : oa_I2) =>
    l_X7_ring_27 J x1 M5 oa_fu (-4) (-4) 1)
noncomputable def f_X7_rule (M : oa_I2) (J : oa_J2) (x1 : Int32) : Option (Int32) :=
  (f_X7_in (Int32.toInt64 x1) 0 2).bind fun (y1 : Int32) =>
  if y1 = 0 then (
    some ((-1)))
  else (
    (oa_rd (M 2) 3 x1).bind fun (y5 : Int32) =>
    some (y5))
noncomputable def b_X7_run_46 (J : oa_J2) (x1 : Int32) (x2 : Int32)   (M : oa_I2) : Option (Int32 × oa_I2) :=
  (f_X7_tries M J x1).bind fun (M16 : oa_I2) =>
  if x2 = 0 then (
    (oa_rd (M16 1) 600 457).bind fun (y20 : Int32) =>
    some (y20, M16))
  else (
  if x2 = 1 then (
    (oa_rd (M16 1) 600 458).bind fun (y23 : Int32) =>
    some (y23, M16))
  else (
  if x2 = 2 then (
    some ((M16 0 9), M16))
  else (
  if x2 = 3 then (
    (f_X7_freeOnes M16 J 360).bind fun (y27 : Int32) =>
    some (y27, M16))
  else (
  (oa_rd (M16 1) 600 ((450 + x2) - 10)).bind fun (y30 : Int32) =>
  some (y30, M16)))))
noncomputable def f_X7_run (M : oa_I2) (J : oa_J2) (x1 : Int32) (x2 : Int32) : Option (Int32 × oa_I2) :=
  (f_X7_in (Int32.toInt64 x1) 0 99).bind fun (y1 : Int32) =>
  if y1 = 0 then (
    some ((-1000000), M))
  else (
    (f_X7_in (Int32.toInt64 x2) 0 3).bind fun (y5 : Int32) =>
    if y5 = 0 then (
      (f_X7_many M J).bind fun (y9 : Int32) =>
      (f_X7_in (Int32.toInt64 x2) 10 (Int32.toInt64 (9 + y9))).bind fun (y12 : Int32) =>
      if y12 = 0 then (
        some ((-1000000), M))
      else (
        b_X7_run_46 J x1 x2 M))
    else (
      b_X7_run_46 J x1 x2 M))
noncomputable def b_X7_set_50 (J : oa_J2) (x1 : Int32) (x2 : Int32) (x3 : Int32)   (M : oa_I2) (s0 : Int64) (s1 : Int64) (s2 : Int64) : Option (Int32 × oa_I2) :=
  (f_X7_in s0 s1 s2).bind fun (y12 : Int32) =>
  if y12 = 0 then (
    some ((-1), M))
  else (
    (oa_rd (M 1) 600 ((8 * x1) + x2)).bind fun (y16 : Int32) =>
    (oa_wr (M 1) 600 ((8 * x1) + x2) x3).bind fun (g18 : Nat → Int32) =>
    oa_let (va_up M 1 g18) fun (M20 : oa_I2) =>
    some (y16, M20))
noncomputable def b_X7_set_32 (J : oa_J2) (x1 : Int32) (x2 : Int32) (x3 : Int32)   (M : oa_I2) (s0 : Int64) (s1 : Int64) : Option (Int32 × oa_I2) :=
  if x2 = 0 then (
    b_X7_set_50 J x1 x2 x3 M s0 s1 4)
  else (
    if x2 = 5 then (
      b_X7_set_50 J x1 x2 x3 M s0 s1 4)
    else (
      b_X7_set_50 J x1 x2 x3 M s0 s1 20))
noncomputable def f_X7_set (M : oa_I2) (J : oa_J2) (x1 : Int32) (x2 : Int32) (x3 : Int32) : Option (Int32 × oa_I2) :=
  (f_X7_isOne M J x1).bind fun (y1 : Int32) =>
  if y1 = 0 then (
    some ((-1), M))
  else (
    (f_X7_in (Int32.toInt64 x2) 0 6).bind fun (y5 : Int32) =>
    if y5 = 0 then (
      some ((-1), M))
    else (
      if x2 = 5 then (
        b_X7_set_32 J x1 x2 x3 M (Int32.toInt64 x3) 1)
      else (
        b_X7_set_32 J x1 x2 x3 M (Int32.toInt64 x3) 0)))
noncomputable def b_X7_sheet_56 (J : oa_J2) (x1 : Int32) (x2 : Int32) (x3 : Int32)   (k56 : oa_I2 → Int32 → Option (Int32 × oa_I2)) (M : oa_I2) (x4 : Int32) : Option (Int32 × oa_I2) :=
  if 40 ≤ x4 then (
    some (1, M))
  else (
    (oa_wr (M 14) 160 ((40 * x1) + x4) 0).bind fun (g20 : Nat → Int32) =>
    oa_let (va_up M 14 g20) fun (M22 : oa_I2) =>
    k56 M22 (x4 + 1))
noncomputable def l_X7_sheet_56 (J : oa_J2) (x1 : Int32) (x2 : Int32) (x3 : Int32)   (n : Nat) (M : oa_I2) (x4 : Int32) : Option (Int32 × oa_I2) :=
  oa_fix (fun k => oa_u fun (M : oa_I2) (x4 : Int32) => b_X7_sheet_56 J x1 x2 x3 (fun M x4 => k (M, x4)) M x4) n (M, x4)
noncomputable def f_X7_sheet (M : oa_I2) (J : oa_J2) (x1 : Int32) (x2 : Int32) (x3 : Int32) : Option (Int32 × oa_I2) :=
  (f_X7_in (Int32.toInt64 x1) 0 3).bind fun (y1 : Int32) =>
  if y1 = 0 then (
    some ((-1), M))
  else (
    (f_X7_in (Int32.toInt64 x2) 0 2).bind fun (y5 : Int32) =>
    if y5 = 0 then (
      some ((-1), M))
    else (
      if x3 ≤ 40 then (
        if 0 ≤ x3 then (
          (oa_wr (M 12) 4 x1 x2).bind fun (g11 : Nat → Int32) =>
          oa_let (va_up M 12 g11) fun (M13 : oa_I2) =>
          (oa_wr (M13 13) 4 x1 x3).bind fun (g15 : Nat → Int32) =>
          oa_let (va_up M13 13 g15) fun (M17 : oa_I2) =>
          l_X7_sheet_56 J x1 x2 x3 oa_fu M17 0)
        else (
          some ((-14), M)))
      else (
        some ((-1), M))))
noncomputable def f_X7_torn (M : oa_I2) (J : oa_J2)  : Option (Int32) :=
  some ((M 0 10))
noncomputable def f_X7_two (M : oa_I2) (J : oa_J2) (x1 : Int32) : Option (Int32 × oa_I2) :=
  (f_X7_in (Int32.toInt64 x1) 1 99).bind fun (y1 : Int32) =>
  if y1 = 0 then (
    some ((-1), M))
  else (
    (oa_rd (M 2) 3 0).bind fun (y5 : Int32) =>
    if y5 = 2 then (
      some ((-2), M))
    else (
      (f_X7_tries M J x1).bind fun (M8 : oa_I2) =>
      (oa_rd (M8 1) 600 457).bind fun (y11 : Int32) =>
      (oa_wr (M8 2) 3 0 2).bind fun (g13 : Nat → Int32) =>
      oa_let (va_up M8 2 g13) fun (M15 : oa_I2) =>
      (f_X7_tries M15 J x1).bind fun (M17 : oa_I2) =>
      (oa_wr (M17 2) 3 0 1).bind fun (g20 : Nat → Int32) =>
      oa_let (va_up M17 2 g20) fun (M22 : oa_I2) =>
      (oa_rd (M22 1) 600 457).bind fun (y24 : Int32) =>
      some (((100000 + y24) - y11), M22)))
noncomputable def b_X7_village_148 (J : oa_J2) (x1 : Int32)  (k148 : oa_I2 → Int32 → Option (Int32 × oa_I2)) (M : oa_I2) (x2 : Int32) : Option (Int32 × oa_I2) :=
  if 3 ≤ x2 then (
    (oa_wr (M 11) 2 0 (vp_nar .boolean 0)).bind fun (g48 : Nat → Int32) =>
    oa_let (va_up M 11 g48) fun (M50 : oa_I2) =>
    (oa_wr (M50 11) 2 1 (vp_nar .boolean 0)).bind fun (g52 : Nat → Int32) =>
    oa_let (va_up M50 11 g52) fun (M54 : oa_I2) =>
    some (x1, M54))
  else (
    (oa_rd (M 3) 3 x2).bind fun (y56 : Int32) =>
    (oa_wr (M 2) 3 x2 y56).bind fun (g58 : Nat → Int32) =>
    oa_let (va_up M 2 g58) fun (M60 : oa_I2) =>
    k148 M60 (x2 + 1))
noncomputable def l_X7_village_148 (J : oa_J2) (x1 : Int32)  (n : Nat) (M : oa_I2) (x2 : Int32) : Option (Int32 × oa_I2) :=
  oa_fix (fun k => oa_u fun (M : oa_I2) (x2 : Int32) => b_X7_village_148 J x1 (fun M x2 => k (M, x2)) M x2) n (M, x2)
noncomputable def b_X7_village_122 (J : oa_J2) (x1 : Int32)  (k122 : oa_I2 → Int32 → Option (Int32 × oa_I2)) (M : oa_I2) (x2 : Int32) : Option (Int32 × oa_I2) :=
  if 100 ≤ x2 then (
    l_X7_village_148 J x1 oa_fu M 0)
  else (
    (oa_rd (M 4) 100 x2).bind fun (y41 : Int32) =>
    (oa_wr (M 1) 600 x2 y41).bind fun (g43 : Nat → Int32) =>
    oa_let (va_up M 1 g43) fun (M45 : oa_I2) =>
    k122 M45 (x2 + 1))
noncomputable def l_X7_village_122 (J : oa_J2) (x1 : Int32)  (n : Nat) (M : oa_I2) (x2 : Int32) : Option (Int32 × oa_I2) :=
  oa_fix (fun k => oa_u fun (M : oa_I2) (x2 : Int32) => b_X7_village_122 J x1 (fun M x2 => k (M, x2)) M x2) n (M, x2)
noncomputable def b_X7_village_88 (J : oa_J2)   (M : oa_I2) (x1 : Int32) : Option (Int32 × oa_I2) :=
  (f_X7_looksBehind M J).bind fun (M32 : oa_I2) =>
  oa_let (va_up M32 0 (upd (M32 0) 0 0)) fun (M35 : oa_I2) =>
  oa_let (va_up M35 0 (upd (M35 0) 1 (M35 0 2))) fun (M37 : oa_I2) =>
  if (M37 0 2) ≤ 0 then (
    l_X7_village_122 J x1 oa_fu M37 0)
  else (
    some (((-10) - (M37 0 3)), M37))
noncomputable def b_X7_village_64 (J : oa_J2)   (k64 : oa_I2 → Int32 → Option (Int32 × oa_I2)) (M : oa_I2) (x1 : Int32) : Option (Int32 × oa_I2) :=
  if (M 0 2) = 0 then (
    if (M 0 6) = 0 then (
      b_X7_village_88 J M x1)
    else (
      (f_X7_readLine M J).bind fun (M29 : oa_I2) =>
      k64 M29 (x1 + 1)))
  else (
    b_X7_village_88 J M x1)
noncomputable def l_X7_village_64 (J : oa_J2)   (n : Nat) (M : oa_I2) (x1 : Int32) : Option (Int32 × oa_I2) :=
  oa_fix (fun k => oa_u fun (M : oa_I2) (x1 : Int32) => b_X7_village_64 J (fun M x1 => k (M, x1)) M x1) n (M, x1)
noncomputable def b_X7_village_19 (J : oa_J2) (x1 : Int32)  (k19 : oa_I2 → Int32 → Option (Int32 × oa_I2)) (M : oa_I2) (x2 : Int32) : Option (Int32 × oa_I2) :=
  if 100 ≤ x2 then (
    (oa_wr (M 3) 3 0 1).bind fun (g8 : Nat → Int32) =>
    oa_let (va_up M 3 g8) fun (M10 : oa_I2) =>
    (oa_wr (M10 3) 3 1 4).bind fun (g12 : Nat → Int32) =>
    oa_let (va_up M10 3 g12) fun (M14 : oa_I2) =>
    (oa_wr (M14 3) 3 2 10).bind fun (g16 : Nat → Int32) =>
    oa_let (va_up M14 3 g16) fun (M18 : oa_I2) =>
    (f_X7_step M18 J).bind fun (M20 : oa_I2) =>
    l_X7_village_64 J oa_fu M20 x1)
  else (
    (oa_wr (M 4) 100 x2 0).bind fun (g23 : Nat → Int32) =>
    oa_let (va_up M 4 g23) fun (M25 : oa_I2) =>
    k19 M25 (x2 + 1))
noncomputable def l_X7_village_19 (J : oa_J2) (x1 : Int32)  (n : Nat) (M : oa_I2) (x2 : Int32) : Option (Int32 × oa_I2) :=
  oa_fix (fun k => oa_u fun (M : oa_I2) (x2 : Int32) => b_X7_village_19 J x1 (fun M x2 => k (M, x2)) M x2) n (M, x2)
noncomputable def f_X7_village (M : oa_I2) (J : oa_J2)  : Option (Int32 × oa_I2) :=
  oa_let (va_up M 0 (upd (M 0) 2 0)) fun (M1 : oa_I2) =>
  oa_let (va_up M1 0 (upd (M1 0) 4 0)) fun (M3 : oa_I2) =>
  oa_let (va_up M3 0 (upd (M3 0) 8 0)) fun (M5 : oa_I2) =>
  l_X7_village_19 J 0 oa_fu M5 0
noncomputable def f_X7_were (M : oa_I2) (J : oa_J2) (x1 : Int32) (x2 : Int32) (x3 : Int32) : Option (Int32 × oa_I2) :=
  (f_X7_isOne M J x1).bind fun (y1 : Int32) =>
  if y1 = 0 then (
    some ((-1), M))
  else (
    (f_X7_in (Int32.toInt64 x2) 0 4).bind fun (y5 : Int32) =>
    if y5 = 0 then (
      some ((-1), M))
    else (
      (f_X7_in (Int32.toInt64 x3) 1 99).bind fun (y9 : Int32) =>
      if y9 = 0 then (
        some ((-1), M))
      else (
        (f_X7_tries M J x3).bind fun (M13 : oa_I2) =>
        (oa_rd (M13 1) 600 (450 + x1)).bind fun (y16 : Int32) =>
        (oa_rd (M13 1) 600 ((8 * x1) + 0)).bind fun (y18 : Int32) =>
        (oa_wr (M13 1) 600 ((8 * x1) + 0) x2).bind fun (g20 : Nat → Int32) =>
        oa_let (va_up M13 1 g20) fun (M22 : oa_I2) =>
        (f_X7_tries M22 J x3).bind fun (M24 : oa_I2) =>
        (oa_wr (M24 1) 600 ((8 * x1) + 0) y18).bind fun (g27 : Nat → Int32) =>
        oa_let (va_up M24 1 g27) fun (M29 : oa_I2) =>
        (oa_rd (M29 1) 600 (450 + x1)).bind fun (y31 : Int32) =>
        some (((100000 + y31) - y16), M29))))
noncomputable def b_X7_where_110 (J : oa_J2) (x1 : Int32)  (k27 : oa_I2 → Int32 → Int32 → Int32 → Option (Int32 × oa_I2)) (M : oa_I2) (x2 : Int32) (x4 : Int32) (x5 : Int32) (x6 : Int32) (s0 : Int32) : Option (Int32 × oa_I2) :=
  if x4 ≤ x6 then (
    k27 M s0 x4 (x5 + 1))
  else (
    k27 M s0 x6 (x5 + 1))
noncomputable def b_X7_where_57 (J : oa_J2) (x1 : Int32) (x2 : Int32) (x3 : Int32) (x4 : Int32) (x5 : Int32) (k27 : oa_I2 → Int32 → Int32 → Int32 → Option (Int32 × oa_I2)) (k57 : oa_I2 → Int32 → Option (Int32 × oa_I2)) (M : oa_I2) (x6 : Int32) : Option (Int32 × oa_I2) :=
  if 6 < x6 then (
    (f_X7_openCount M J 480).bind fun (y22 : Int32) =>
    if x4 ≤ y22 then (
      b_X7_where_110 J x1 k27 M x2 x4 x5 y22 x3)
    else (
      b_X7_where_110 J x1 k27 M x2 x4 x5 y22 x5))
  else (
    (oa_wr (M 1) 600 ((528 + (7 * x5)) + x6) 0).bind fun (g26 : Nat → Int32) =>
    oa_let (va_up M 1 g26) fun (M28 : oa_I2) =>
    k57 M28 (x6 + 1))
noncomputable def l_X7_where_57 (J : oa_J2) (x1 : Int32) (x2 : Int32) (x3 : Int32) (x4 : Int32) (x5 : Int32) (k27 : oa_I2 → Int32 → Int32 → Int32 → Option (Int32 × oa_I2)) (n : Nat) (M : oa_I2) (x6 : Int32) : Option (Int32 × oa_I2) :=
  oa_fix (fun k => oa_u fun (M : oa_I2) (x6 : Int32) => b_X7_where_57 J x1 x2 x3 x4 x5 k27 (fun M x6 => k (M, x6)) M x6) n (M, x6)
noncomputable def b_X7_where_27 (J : oa_J2) (x1 : Int32) (x2 : Int32)  (k27 : oa_I2 → Int32 → Int32 → Int32 → Option (Int32 × oa_I2)) (M : oa_I2) (x3 : Int32) (x4 : Int32) (x5 : Int32) : Option (Int32 × oa_I2) :=
  (f_X7_many M J).bind fun (y8 : Int32) =>
  if y8 ≤ x5 then (
    if x3 = (-4) then (
      some ((-4), M))
    else (
      if x1 = 0 then (
        some (x3, M))
      else (
        some ((x2 - x4), M))))
  else (
    (f_X7_isFree M J 0 x5).bind fun (y14 : Int32) =>
    if y14 = 0 then (
      (f_X7_copies M J 0 480).bind fun (M18 : oa_I2) =>
      l_X7_where_57 J x1 x2 x3 x4 x5 k27 oa_fu M18 0)
    else (
      k27 M x3 x4 (x5 + 1)))
noncomputable def l_X7_where_27 (J : oa_J2) (x1 : Int32) (x2 : Int32)  (n : Nat) (M : oa_I2) (x3 : Int32) (x4 : Int32) (x5 : Int32) : Option (Int32 × oa_I2) :=
  oa_fix (fun k => oa_u fun (M : oa_I2) => oa_u fun (x3 : Int32) => oa_u fun (x4 : Int32) (x5 : Int32) => b_X7_where_27 J x1 x2 (fun M x3 x4 x5 => k (M, x3, x4, x5)) M x3 x4 x5) n (M, x3, x4, x5)
noncomputable def f_X7_where (M : oa_I2) (J : oa_J2) (x1 : Int32) : Option (Int32 × oa_I2) :=
  (f_X7_in (Int32.toInt64 x1) 0 1).bind fun (y1 : Int32) =>
  if y1 = 0 then (
    some ((-1), M))
  else (
    (f_X7_openCount M J 0).bind fun (y5 : Int32) =>
    l_X7_where_27 J x1 y5 oa_fu M (-4) y5 0)
noncomputable def f_X7_whom (M : oa_I2) (J : oa_J2) (x1 : Int32) : Option (Int32) :=
  (f_X7_isOne M J x1).bind fun (y1 : Int32) =>
  if y1 = 0 then (
    some ((-1)))
  else (
    (f_X7_seenFree M J 0).bind fun (y5 : Int32) =>
    (f_X7_chosen M J 0 x1 y5).bind fun (y8 : Int32) =>
    some (y8))
noncomputable def b_X7_worth_43 (M : oa_I2) (J : oa_J2) (x1 : Int32) (x2 : Int32) (x3 : Int32)   (s1 : Int32) (s2 : Int32) (s3 : Int32) (s4 : Int32) : Option (Int32) :=
  (f_X7_worthBy M J s1 s2 s3 s4).bind fun (y16 : Int32) =>
  some (y16)
noncomputable def f_X7_worth (M : oa_I2) (J : oa_J2) (x1 : Int32) (x2 : Int32) (x3 : Int32) : Option (Int32) :=
  (f_X7_isWrong M J x1 x2).bind fun (y1 : Int32) =>
  if y1 = 0 then (
    some ((-1000000)))
  else (
    (f_X7_in (Int32.toInt64 x3) 0 1).bind fun (y5 : Int32) =>
    if y5 = 0 then (
      some ((-1000000)))
    else (
      if x3 = 0 then (
        (f_X7_seenFree M J 0).bind fun (y13 : Int32) =>
        b_X7_worth_43 M J x1 x2 x3 0 x1 x2 y13)
      else (
        (f_X7_freeOnes M J 0).bind fun (y10 : Int32) =>
        b_X7_worth_43 M J x1 x2 x3 0 x1 x2 y10)))
noncomputable def f_X7_would (M : oa_I2) (J : oa_J2) (x1 : Int32) (x2 : Int32) : Option (Int32) :=
  (f_X7_isWrong M J x1 x2).bind fun (y1 : Int32) =>
  if y1 = 0 then (
    some ((-1)))
  else (
    (f_X7_wouldOf M J 0 x1 x2).bind fun (y5 : Int32) =>
    some (y5))
noncomputable def f_X7_wrong (M : oa_I2) (J : oa_J2) (x1 : Int32) (x2 : Int32) : Option (Int32 × oa_I2) :=
  (f_X7_isWrong M J x1 x2).bind fun (y1 : Int32) =>
  if y1 = 0 then (
    some ((-1000000), M))
  else (
    (f_X7_freeOnes M J 0).bind fun (y5 : Int32) =>
    (f_X7_worthBy M J 0 x1 x2 y5).bind fun (y8 : Int32) =>
    (f_X7_wrongs M J 0 x1 x2).bind fun (M11 : oa_I2) =>
    some (y8, M11))
