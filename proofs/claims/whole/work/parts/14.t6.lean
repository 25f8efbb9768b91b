/-! contracts (printed by wip/whole/gen/run.py) -/
theorem dX6_again_0 : decode cX6_again 0 = .ok (.iload_n 1, 1) := by decide +kernel
theorem dX6_again_1 : decode cX6_again 1 = .ok (.iconst 0, 1) := by decide +kernel
theorem dX6_again_2 : decode cX6_again 2 = .ok (.iconst 1, 1) := by decide +kernel
theorem dX6_again_3 : decode cX6_again 3 = .ok (.invokestatic 96, 3) := by decide +kernel
theorem dX6_again_6 : decode cX6_again 6 = .ok (.ifCond .ne 5, 3) := by decide +kernel
theorem dX6_again_9 : decode cX6_again 9 = .ok (.iconst (-1), 1) := by decide +kernel
theorem dX6_again_10 : decode cX6_again 10 = .ok (.ireturn, 1) := by decide +kernel
theorem dX6_again_11 : decode cX6_again 11 = .ok (.aload_n 0, 1) := by decide +kernel
theorem dX6_again_12 : decode cX6_again 12 = .ok (.getfield 16, 3) := by decide +kernel
theorem dX6_again_15 : decode cX6_again 15 = .ok (.aload_n 0, 1) := by decide +kernel
theorem dX6_again_16 : decode cX6_again 16 = .ok (.getfield 10, 3) := by decide +kernel
theorem dX6_again_19 : decode cX6_again 19 = .ok (.invokevirtual 89, 3) := by decide +kernel
theorem dX6_again_22 : decode cX6_again 22 = .ok (.aload_n 0, 1) := by decide +kernel
theorem dX6_again_23 : decode cX6_again 23 = .ok (.getfield 43, 3) := by decide +kernel
theorem dX6_again_26 : decode cX6_again 26 = .ok (.iconst 0, 1) := by decide +kernel
theorem dX6_again_27 : decode cX6_again 27 = .ok (.aload_n 0, 1) := by decide +kernel
theorem dX6_again_28 : decode cX6_again 28 = .ok (.getfield 16, 3) := by decide +kernel
theorem dX6_again_31 : decode cX6_again 31 = .ok (.invokevirtual 202, 3) := by decide +kernel
theorem dX6_again_34 : decode cX6_again 34 = .ok (.iconst 1, 1) := by decide +kernel
theorem dX6_again_35 : decode cX6_again 35 = .ok (.istore_n 2, 1) := by decide +kernel
theorem dX6_again_36 : decode cX6_again 36 = .ok (.iload_n 2, 1) := by decide +kernel
theorem dX6_again_37 : decode cX6_again 37 = .ok (.bipush 99, 2) := by decide +kernel
theorem dX6_again_39 : decode cX6_again 39 = .ok (.if_icmp .gt 52, 3) := by decide +kernel
theorem dX6_again_42 : decode cX6_again 42 = .ok (.aload_n 0, 1) := by decide +kernel
theorem dX6_again_43 : decode cX6_again 43 = .ok (.getfield 16, 3) := by decide +kernel
theorem dX6_again_46 : decode cX6_again 46 = .ok (.iconst 1, 1) := by decide +kernel
theorem dX6_again_47 : decode cX6_again 47 = .ok (.invokevirtual 176, 3) := by decide +kernel
theorem dX6_again_50 : decode cX6_again 50 = .ok (.pop, 1) := by decide +kernel
theorem dX6_again_51 : decode cX6_again 51 = .ok (.aload_n 0, 1) := by decide +kernel
theorem dX6_again_52 : decode cX6_again 52 = .ok (.getfield 43, 3) := by decide +kernel
theorem dX6_again_55 : decode cX6_again 55 = .ok (.iload_n 2, 1) := by decide +kernel
theorem dX6_again_56 : decode cX6_again 56 = .ok (.aload_n 0, 1) := by decide +kernel
theorem dX6_again_57 : decode cX6_again 57 = .ok (.getfield 16, 3) := by decide +kernel
theorem dX6_again_60 : decode cX6_again 60 = .ok (.invokevirtual 202, 3) := by decide +kernel
theorem dX6_again_63 : decode cX6_again 63 = .ok (.aload_n 0, 1) := by decide +kernel
theorem dX6_again_64 : decode cX6_again 64 = .ok (.getfield 43, 3) := by decide +kernel
theorem dX6_again_67 : decode cX6_again 67 = .ok (.iload_n 2, 1) := by decide +kernel
theorem dX6_again_68 : decode cX6_again 68 = .ok (.iload_n 1, 1) := by decide +kernel
theorem dX6_again_69 : decode cX6_again 69 = .ok (.ifCond .ne 7, 3) := by decide +kernel
theorem dX6_again_72 : decode cX6_again 72 = .ok (.iconst 1, 1) := by decide +kernel
theorem dX6_again_73 : decode cX6_again 73 = .ok (.goto 4, 3) := by decide +kernel
theorem dX6_again_76 : decode cX6_again 76 = .ok (.iload_n 2, 1) := by decide +kernel
theorem dX6_again_77 : decode cX6_again 77 = .ok (.invokevirtual 206, 3) := by decide +kernel
theorem dX6_again_80 : decode cX6_again 80 = .ok (.ifCond .eq 5, 3) := by decide +kernel
theorem dX6_again_83 : decode cX6_again 83 = .ok (.iload_n 2, 1) := by decide +kernel
theorem dX6_again_84 : decode cX6_again 84 = .ok (.ireturn, 1) := by decide +kernel
theorem dX6_again_85 : decode cX6_again 85 = .ok (.iinc 2 1, 3) := by decide +kernel
theorem dX6_again_88 : decode cX6_again 88 = .ok (.goto (-52), 3) := by decide +kernel
theorem dX6_again_91 : decode cX6_again 91 = .ok (.bipush (-4), 2) := by decide +kernel
theorem dX6_again_93 : decode cX6_again 93 = .ok (.ireturn, 1) := by decide +kernel
abbrev rm_X6_again : Room := { frames := 7, cells := 0, slots := 0, locals := 160 }
theorem t_b_X6_again_77 {G : oa_G} {O : oa_O} {A : Nat → Prop} {a : Nat → Nat} {res : Int32 × oa_I3} (C : oa_C G cX6_again 3 RX6 (some .int) rm_X6_again O A) (J : oa_J2) (x1 : Int32)  (B : oa_I3) (x2 : Int32) (s1 : Int32) (s2 : Int32) (k36 : oa_I3 → Int32 → Option (Int32 × oa_I3)) (hk36 : ∀ (b_B : oa_I3) (b_x2 : Int32), k36 b_B b_x2 = some res → ww G 3 O A (oa_Q G O A (0, 0) (some (.int res.1)) (fun W1 => W1 = wd_O O a res.2 J)) (0, 0) 36 [(0, .ref (a 0)), (1, .int x1), (2, .int b_x2)] [] (wd_O O a b_B J))  (hf : b_X6_again_77 J x1 k36 B x2 s1 s2 = some res) : ww G 3 O A (oa_Q G O A (0, 0) (some (.int res.1)) (fun W1 => W1 = wd_O O a res.2 J)) (0, 0) 77 [(0, .ref (a 0)), (1, .int x1), (2, .int x2)] [.int s2, .int s1, .ref (a 24)] (wd_O O a B J) := by
  delta b_X6_again_77 at hf
  obtain ⟨y28, e29, hf⟩ := oa_bind hf
  refine ww_callV (pc := 77) (As := [.int s1, .int s2]) (rest := []) (wd := wd_P O (fun i => a (i + 24)) (B 11)) (ws' := wd_O O a B J) (rv := (some (.int y28))) C hY_X1_hasLike hV_X1_hasLike lk_X6_206 (m_X1_hasLike _ O (fun i => a (i + 24)) (B 11) s1 s2 _ e29) [24, 25] 24 rfl rfl rfl rfl rfl (oa_putS _ _ _ rfl) (fun _ h => h) ⟨rfl, rfl⟩ ⟨Nat.zero_le _, Nat.zero_le _⟩ ⟨Nat.le_of_ble_eq_true rfl, Nat.le_of_ble_eq_true rfl⟩ rfl (Nat.le_of_ble_eq_true rfl) rfl rfl dX6_again_77 ?_
  refine ww_if_eq (pc := 80) (tgt := 85) C dX6_again_80 (by decide) (fun c31 => ?_) (fun c31 => ?_)
  · have hf := oa_ifp c31 hf
    refine ww_iinc (pc := 85) (v := (x2 + 1)) (L' := [(0, .ref (a 0)), (1, .int x1), (2, .int (x2 + 1))]) C 2 [1, 2, 0] dX6_again_85 rfl (ki_1 _) (Nat.le_of_ble_eq_true rfl) rfl ?_
    refine ww_goto (pc := 88) (tgt := 36) C dX6_again_88 (by decide) ?_
    exact hk36 B (x2 + 1) hf
  · have hf := oa_ifn c31 hf
    refine ww_iload_n (pc := 83) (i := 2) C 2 dX6_again_83 rfl rfl ?_
    obtain rfl := Option.some.inj hf
    exact ww_iret (pc := 84) C rfl dX6_again_84
theorem t_b_X6_again_36 {G : oa_G} {O : oa_O} {A : Nat → Prop} {a : Nat → Nat} {res : Int32 × oa_I3} (C : oa_C G cX6_again 3 RX6 (some .int) rm_X6_again O A) (J : oa_J2) (x1 : Int32)    (k36 : oa_I3 → Int32 → Option (Int32 × oa_I3))  (hk36 : ∀ (b_B : oa_I3) (b_x2 : Int32), k36 b_B b_x2 = some res → ww G 3 O A (oa_Q G O A (0, 0) (some (.int res.1)) (fun W1 => W1 = wd_O O a res.2 J)) (0, 0) 36 [(0, .ref (a 0)), (1, .int x1), (2, .int b_x2)] [] (wd_O O a b_B J)) (B : oa_I3) (x2 : Int32) (hf : b_X6_again_36 J x1 k36 B x2 = some res) : ww G 3 O A (oa_Q G O A (0, 0) (some (.int res.1)) (fun W1 => W1 = wd_O O a res.2 J)) (0, 0) 36 [(0, .ref (a 0)), (1, .int x1), (2, .int x2)] [] (wd_O O a B J) := by
  delta b_X6_again_36 at hf
  refine ww_iload_n (pc := 36) (i := 2) C 2 dX6_again_36 rfl rfl ?_
  refine ww_bipush (pc := 37) C dX6_again_37 kb_99 ?_
  refine ww_icmp_gt (pc := 39) (tgt := 91) C dX6_again_39 (by decide) (fun c15 => ?_) (fun c15 => ?_)
  · have hf := oa_ifp c15 hf
    refine ww_bipush (pc := 91) C dX6_again_91 kb_m4 ?_
    obtain rfl := Option.some.inj hf
    exact ww_iret (pc := 93) C rfl dX6_again_93
  · have hf := oa_ifn c15 hf
    refine ww_aload_n (pc := 42) (i := 0) C 0 dX6_again_42 rfl rfl ?_
    refine ww_get (pc := 43) C fl_X6_16 0 rfl rfl dX6_again_43 ?_
    refine ww_iconst (pc := 46) C dX6_again_46 kc_1 ?_
    obtain ⟨y16, V17, e18, hf⟩ := oa_bind2 hf
    obtain ⟨B20, e21, hf⟩ := oa_letE hf
    refine ww_callV (pc := 47) (As := [.int 1]) (rest := []) (wd := wd_V O (fun i => a (i + 7)) V17) (ws' := wd_O O a B20 J) (rv := (some (.int y16))) C hY_X5_passWeeks hV_X5_passWeeks lk_X6_176 (m_X5_passWeeks _ O (fun i => a (i + 7)) (B 1) 1 _ e18) [7, 8, 9, 10, 11, 12] 7 rfl rfl rfl rfl rfl (by subst e21; rfl) (fun _ h => h) ⟨rfl, rfl⟩ ⟨Nat.zero_le _, Nat.zero_le _⟩ ⟨Nat.le_of_ble_eq_true rfl, Nat.le_of_ble_eq_true rfl⟩ rfl (Nat.le_of_ble_eq_true rfl) rfl rfl dX6_again_47 ?_
    refine ww_pop (pc := 50) C dX6_again_50 rfl ?_
    refine ww_aload_n (pc := 51) (i := 0) C 0 dX6_again_51 rfl rfl ?_
    refine ww_get (pc := 52) C fl_X6_43 0 rfl rfl dX6_again_52 ?_
    refine ww_iload_n (pc := 55) (i := 2) C 2 dX6_again_55 rfl rfl ?_
    refine ww_aload_n (pc := 56) (i := 0) C 0 dX6_again_56 rfl rfl ?_
    refine ww_get (pc := 57) C fl_X6_16 0 rfl rfl dX6_again_57 ?_
    obtain ⟨P22, e23, hf⟩ := oa_bind hf
    obtain ⟨B25, e26, hf⟩ := oa_letE hf
    refine ww_callV (pc := 60) (As := [.int x2, .ref (a 7)]) (rest := []) (wd := wd_PV O (fun i => a (i + 24)) (fun i => a (i + 7)) P22 (B20 1)) (ws' := wd_O O a B25 J) (rv := none) C hY_X1_note hV_X1_note lk_X6_202 (m_X1_note _ O (fun i => a (i + 24)) (fun i => a (i + 7)) (B20 11) (B20 1) x2 _ e23) [24, 25, 7, 8, 9, 10, 11, 12] 24 rfl rfl rfl rfl rfl (by subst e26; rfl) (fun _ h => h) ⟨rfl, rfl⟩ ⟨Nat.zero_le _, Nat.zero_le _⟩ ⟨Nat.le_of_ble_eq_true rfl, Nat.le_of_ble_eq_true rfl⟩ rfl (Nat.le_of_ble_eq_true rfl) rfl rfl dX6_again_60 ?_
    refine ww_aload_n (pc := 63) (i := 0) C 0 dX6_again_63 rfl rfl ?_
    refine ww_get (pc := 64) C fl_X6_43 0 rfl rfl dX6_again_64 ?_
    refine ww_iload_n (pc := 67) (i := 2) C 2 dX6_again_67 rfl rfl ?_
    refine ww_iload_n (pc := 68) (i := 1) C 1 dX6_again_68 rfl rfl ?_
    refine ww_if_ne (pc := 69) (tgt := 76) C dX6_again_69 (by decide) (fun c27 => ?_) (fun c27 => ?_)
    · have hf := oa_ifn c27 hf
      refine ww_iload_n (pc := 76) (i := 2) C 2 dX6_again_76 rfl rfl ?_
      exact t_b_X6_again_77 C J x1 B25 x2 x2 x2 k36 hk36 hf
    · have hf := oa_ifp c27 hf
      refine ww_iconst (pc := 72) C dX6_again_72 kc_1 ?_
      refine ww_goto (pc := 73) (tgt := 77) C dX6_again_73 (by decide) ?_
      exact t_b_X6_again_77 C J x1 B25 x2 x2 1 k36 hk36 hf
theorem t_l_X6_again_36 {G : oa_G} {O : oa_O} {A : Nat → Prop} {a : Nat → Nat} {res : Int32 × oa_I3} (C : oa_C G cX6_again 3 RX6 (some .int) rm_X6_again O A) (J : oa_J2) (x1 : Int32)    : ∀ (n : Nat) (B : oa_I3) (x2 : Int32), l_X6_again_36 J x1 n B x2 = some res → ww G 3 O A (oa_Q G O A (0, 0) (some (.int res.1)) (fun W1 => W1 = wd_O O a res.2 J)) (0, 0) 36 [(0, .ref (a 0)), (1, .int x1), (2, .int x2)] [] (wd_O O a B J) := by
  intro n
  induction n with
  | zero => intro B x2 hf; exact absurd (show (none : Option (Int32 × oa_I3)) = some res from hf) (fun h => nomatch h)
  | succ n ih =>
    intro B x2 hf
    exact t_b_X6_again_36 C J x1  (fun B x2 => l_X6_again_36 J x1 n B x2)  (fun B x2 h => ih B x2 h) B x2 hf
theorem m_X6_again (l : Launch) (O : oa_O) (a : Nat → Nat) (B : oa_I3) (J : oa_J2) (x1 : Int32) (res : Int32 × oa_I3) (hf : f_X6_again B J x1 = some res) : oa_M l yX6_again cX6_again 3 (some .int) rm_X6_again O [.ref (a 0), .int x1] (wd_O O a B J) (some (.int res.1)) (fun W1 => W1 = wd_O O a res.2 J) := by
  refine oa_Mof (by decide) (Nat.le_of_ble_eq_true rfl) (fun G A hl C => ?_)
  subst hl
  have C : oa_C G cX6_again 3 RX6 (some .int) rm_X6_again O A := C
  have hf : f_X6_again B J x1 = some res := hf
  delta f_X6_again at hf
  show ww G 3 O A (oa_Q G O A (0, 0) (some (.int res.1)) (fun W1 => W1 = wd_O O a res.2 J)) (0, 0) 0 [(0, .ref (a 0)), (1, .int x1)] [] (wd_O O a B J)
  refine ww_iload_n (pc := 0) (i := 1) C 1 dX6_again_0 rfl rfl ?_
  refine ww_iconst (pc := 1) C dX6_again_1 kc_0 ?_
  refine ww_iconst (pc := 2) C dX6_again_2 kc_1 ?_
  obtain ⟨y1, e2, hf⟩ := oa_bind hf
  refine ww_callS (pc := 3) (As := [.int x1, .int 0, .int 1]) (rest := []) (wd := []) (ws' := wd_O O a B J) (rv := (some (.int y1))) C hY_X6_within hS_X6_within lk_X6_96 (m_X6_within _ O  x1 0 1 _ e2) [] rfl rfl rfl (oa_putS _ _ _ rfl) (fun _ h => h) ⟨rfl, rfl⟩ ⟨Nat.zero_le _, Nat.zero_le _⟩ ⟨Nat.le_of_ble_eq_true rfl, Nat.le_of_ble_eq_true rfl⟩ rfl (Nat.le_of_ble_eq_true rfl) rfl rfl dX6_again_3 ?_
  refine ww_if_ne (pc := 6) (tgt := 11) C dX6_again_6 (by decide) (fun c4 => ?_) (fun c4 => ?_)
  · have hf := oa_ifn c4 hf
    refine ww_aload_n (pc := 11) (i := 0) C 0 dX6_again_11 rfl rfl ?_
    refine ww_get (pc := 12) C fl_X6_16 0 rfl rfl dX6_again_12 ?_
    refine ww_aload_n (pc := 15) (i := 0) C 0 dX6_again_15 rfl rfl ?_
    refine ww_get (pc := 16) C fl_X6_10 0 rfl rfl dX6_again_16 ?_
    obtain ⟨V5, e6, hf⟩ := oa_bind hf
    obtain ⟨B8, e9, hf⟩ := oa_letE hf
    refine ww_callV (pc := 19) (As := [.ref (a 1)]) (rest := []) (wd := wd_VV O (fun i => a (i + 7)) (fun i => a (i + 1)) V5 (B 0)) (ws' := wd_O O a B8 J) (rv := none) C hY_X5_copyOf hV_X5_copyOf lk_X6_89 (m_X5_copyOf _ O (fun i => a (i + 7)) (fun i => a (i + 1)) (B 1) (B 0) _ e6) [7, 8, 9, 10, 11, 12, 1, 2, 3, 4, 5, 6] 7 rfl rfl rfl rfl rfl (by subst e9; rfl) (fun _ h => h) ⟨rfl, rfl⟩ ⟨Nat.zero_le _, Nat.zero_le _⟩ ⟨Nat.le_of_ble_eq_true rfl, Nat.le_of_ble_eq_true rfl⟩ rfl (Nat.le_of_ble_eq_true rfl) rfl rfl dX6_again_19 ?_
    refine ww_aload_n (pc := 22) (i := 0) C 0 dX6_again_22 rfl rfl ?_
    refine ww_get (pc := 23) C fl_X6_43 0 rfl rfl dX6_again_23 ?_
    refine ww_iconst (pc := 26) C dX6_again_26 kc_0 ?_
    refine ww_aload_n (pc := 27) (i := 0) C 0 dX6_again_27 rfl rfl ?_
    refine ww_get (pc := 28) C fl_X6_16 0 rfl rfl dX6_again_28 ?_
    obtain ⟨P10, e11, hf⟩ := oa_bind hf
    obtain ⟨B13, e14, hf⟩ := oa_letE hf
    refine ww_callV (pc := 31) (As := [.int 0, .ref (a 7)]) (rest := []) (wd := wd_PV O (fun i => a (i + 24)) (fun i => a (i + 7)) P10 (B8 1)) (ws' := wd_O O a B13 J) (rv := none) C hY_X1_note hV_X1_note lk_X6_202 (m_X1_note _ O (fun i => a (i + 24)) (fun i => a (i + 7)) (B8 11) (B8 1) 0 _ e11) [24, 25, 7, 8, 9, 10, 11, 12] 24 rfl rfl rfl rfl rfl (by subst e14; rfl) (fun _ h => h) ⟨rfl, rfl⟩ ⟨Nat.zero_le _, Nat.zero_le _⟩ ⟨Nat.le_of_ble_eq_true rfl, Nat.le_of_ble_eq_true rfl⟩ rfl (Nat.le_of_ble_eq_true rfl) rfl rfl dX6_again_31 ?_
    refine ww_iconst (pc := 34) C dX6_again_34 kc_1 ?_
    refine ww_istore_n (pc := 35) (L' := [(0, .ref (a 0)), (1, .int x1), (2, .int 1)]) C [1, 2, 0] dX6_again_35 rfl (Nat.le_of_ble_eq_true rfl) rfl ?_
    exact t_l_X6_again_36 C J x1    oa_fu B13 1 hf
  · have hf := oa_ifp c4 hf
    refine ww_iconst (pc := 9) C dX6_again_9 kc_m1 ?_
    obtain rfl := Option.some.inj hf
    exact ww_iret (pc := 10) C rfl dX6_again_10
theorem dX6_always_0 : decode cX6_always 0 = .ok (.aload_n 0, 1) := by decide +kernel
theorem dX6_always_1 : decode cX6_always 1 = .ok (.getfield 16, 3) := by decide +kernel
theorem dX6_always_4 : decode cX6_always 4 = .ok (.aload_n 0, 1) := by decide +kernel
theorem dX6_always_5 : decode cX6_always 5 = .ok (.getfield 10, 3) := by decide +kernel
theorem dX6_always_8 : decode cX6_always 8 = .ok (.invokevirtual 89, 3) := by decide +kernel
theorem dX6_always_11 : decode cX6_always 11 = .ok (.aload_n 0, 1) := by decide +kernel
theorem dX6_always_12 : decode cX6_always 12 = .ok (.getfield 16, 3) := by decide +kernel
theorem dX6_always_15 : decode cX6_always 15 = .ok (.aload_n 0, 1) := by decide +kernel
theorem dX6_always_16 : decode cX6_always 16 = .ok (.getfield 10, 3) := by decide +kernel
theorem dX6_always_19 : decode cX6_always 19 = .ok (.invokevirtual 222, 3) := by decide +kernel
theorem dX6_always_22 : decode cX6_always 22 = .ok (.invokevirtual 218, 3) := by decide +kernel
theorem dX6_always_25 : decode cX6_always 25 = .ok (.aload_n 0, 1) := by decide +kernel
theorem dX6_always_26 : decode cX6_always 26 = .ok (.getfield 16, 3) := by decide +kernel
theorem dX6_always_29 : decode cX6_always 29 = .ok (.invokevirtual 192, 3) := by decide +kernel
theorem dX6_always_32 : decode cX6_always 32 = .ok (.lstore_n 1, 1) := by decide +kernel
theorem dX6_always_33 : decode cX6_always 33 = .ok (.iconst 0, 1) := by decide +kernel
theorem dX6_always_34 : decode cX6_always 34 = .ok (.istore_n 3, 1) := by decide +kernel
theorem dX6_always_35 : decode cX6_always 35 = .ok (.iconst 0, 1) := by decide +kernel
theorem dX6_always_36 : decode cX6_always 36 = .ok (.istore 4, 2) := by decide +kernel
theorem dX6_always_38 : decode cX6_always 38 = .ok (.iload 4, 2) := by decide +kernel
theorem dX6_always_40 : decode cX6_always 40 = .ok (.bipush 6, 2) := by decide +kernel
theorem dX6_always_42 : decode cX6_always 42 = .ok (.if_icmp .ge 23, 3) := by decide +kernel
theorem dX6_always_45 : decode cX6_always 45 = .ok (.iload_n 3, 1) := by decide +kernel
theorem dX6_always_46 : decode cX6_always 46 = .ok (.lload_n 1, 1) := by decide +kernel
theorem dX6_always_47 : decode cX6_always 47 = .ok (.bipush 6, 2) := by decide +kernel
theorem dX6_always_49 : decode cX6_always 49 = .ok (.iload 4, 2) := by decide +kernel
theorem dX6_always_51 : decode cX6_always 51 = .ok (.imul, 1) := by decide +kernel
theorem dX6_always_52 : decode cX6_always 52 = .ok (.lshr, 1) := by decide +kernel
theorem dX6_always_53 : decode cX6_always 53 = .ok (.l2i, 1) := by decide +kernel
theorem dX6_always_54 : decode cX6_always 54 = .ok (.bipush 63, 2) := by decide +kernel
theorem dX6_always_56 : decode cX6_always 56 = .ok (.iand, 1) := by decide +kernel
theorem dX6_always_57 : decode cX6_always 57 = .ok (.ior, 1) := by decide +kernel
theorem dX6_always_58 : decode cX6_always 58 = .ok (.istore_n 3, 1) := by decide +kernel
theorem dX6_always_59 : decode cX6_always 59 = .ok (.iinc 4 1, 3) := by decide +kernel
theorem dX6_always_62 : decode cX6_always 62 = .ok (.goto (-24), 3) := by decide +kernel
theorem dX6_always_65 : decode cX6_always 65 = .ok (.iload_n 3, 1) := by decide +kernel
theorem dX6_always_66 : decode cX6_always 66 = .ok (.ireturn, 1) := by decide +kernel
abbrev rm_X6_always : Room := { frames := 6, cells := 0, slots := 0, locals := 136 }
theorem t_b_X6_always_38 {G : oa_G} {O : oa_O} {A : Nat → Prop} {a : Nat → Nat} {res : Int32 × oa_I3} (C : oa_C G cX6_always 5 RX6 (some .int) rm_X6_always O A) (J : oa_J2) (B : oa_I3) (x1 : Int64)   (k38 : Int32 → Int32 → Option (Int32 × oa_I3))  (hk38 : ∀ (b_x3 : Int32) (b_x4 : Int32), k38 b_x3 b_x4 = some res → ww G 5 O A (oa_Q G O A (0, 0) (some (.int res.1)) (fun W1 => W1 = wd_O O a res.2 J)) (0, 0) 38 [(1, .long x1), (3, .int b_x3), (4, .int b_x4)] [] (wd_O O a B J)) (x3 : Int32) (x4 : Int32) (hf : b_X6_always_38 J B x1 k38 x3 x4 = some res) : ww G 5 O A (oa_Q G O A (0, 0) (some (.int res.1)) (fun W1 => W1 = wd_O O a res.2 J)) (0, 0) 38 [(1, .long x1), (3, .int x3), (4, .int x4)] [] (wd_O O a B J) := by
  delta b_X6_always_38 at hf
  refine ww_iload (pc := 38) (i := 4) C 2 dX6_always_38 rfl ?_
  refine ww_bipush (pc := 40) C dX6_always_40 kb_6 ?_
  refine ww_icmp_ge (pc := 42) (tgt := 65) C dX6_always_42 (by decide) (fun c17 => ?_) (fun c17 => ?_)
  · have hf := oa_ifp c17 hf
    refine ww_iload_n (pc := 65) (i := 3) C 1 dX6_always_65 rfl rfl ?_
    obtain rfl := Option.some.inj hf
    exact ww_iret (pc := 66) C rfl dX6_always_66
  · have hf := oa_ifn c17 hf
    refine ww_iload_n (pc := 45) (i := 3) C 1 dX6_always_45 rfl rfl ?_
    refine ww_lload_n (pc := 46) (i := 1) C 0 dX6_always_46 rfl rfl ?_
    refine ww_bipush (pc := 47) C dX6_always_47 kb_6 ?_
    refine ww_iload (pc := 49) (i := 4) C 2 dX6_always_49 rfl ?_
    refine ww_imul (pc := 51) C dX6_always_51 ?_
    refine ww_lshr (pc := 52) C dX6_always_52 ?_
    refine ww_l2i (pc := 53) C dX6_always_53 ?_
    refine ww_bipush (pc := 54) C dX6_always_54 kb_63 ?_
    refine ww_iand (pc := 56) C dX6_always_56 ?_
    refine ww_ior (pc := 57) C dX6_always_57 ?_
    obtain ⟨y18, e19, hf⟩ := oa_letE hf
    refine ww_topi C e19 ?_
    refine ww_istore_n (pc := 58) (L' := [(1, .long x1), (3, .int y18), (4, .int x4)]) C [1, 0, 2] dX6_always_58 rfl (Nat.le_of_ble_eq_true rfl) rfl ?_
    refine ww_iinc (pc := 59) (v := (x4 + 1)) (L' := [(1, .long x1), (3, .int y18), (4, .int (x4 + 1))]) C 2 [1, 2, 0] dX6_always_59 rfl (ki_1 _) (Nat.le_of_ble_eq_true rfl) rfl ?_
    refine ww_goto (pc := 62) (tgt := 38) C dX6_always_62 (by decide) ?_
    exact hk38 y18 (x4 + 1) hf
theorem t_l_X6_always_38 {G : oa_G} {O : oa_O} {A : Nat → Prop} {a : Nat → Nat} {res : Int32 × oa_I3} (C : oa_C G cX6_always 5 RX6 (some .int) rm_X6_always O A) (J : oa_J2) (B : oa_I3) (x1 : Int64)   : ∀ (n : Nat) (x3 : Int32) (x4 : Int32), l_X6_always_38 J B x1 n x3 x4 = some res → ww G 5 O A (oa_Q G O A (0, 0) (some (.int res.1)) (fun W1 => W1 = wd_O O a res.2 J)) (0, 0) 38 [(1, .long x1), (3, .int x3), (4, .int x4)] [] (wd_O O a B J) := by
  intro n
  induction n with
  | zero => intro x3 x4 hf; exact absurd (show (none : Option (Int32 × oa_I3)) = some res from hf) (fun h => nomatch h)
  | succ n ih =>
    intro x3 x4 hf
    exact t_b_X6_always_38 C J B x1 (fun x3 x4 => l_X6_always_38 J B x1 n x3 x4)  (fun x3 x4 h => ih x3 x4 h) x3 x4 hf
theorem m_X6_always (l : Launch) (O : oa_O) (a : Nat → Nat) (B : oa_I3) (J : oa_J2)  (res : Int32 × oa_I3) (hf : f_X6_always B J = some res) : oa_M l yX6_always cX6_always 5 (some .int) rm_X6_always O [.ref (a 0)] (wd_O O a B J) (some (.int res.1)) (fun W1 => W1 = wd_O O a res.2 J) := by
  refine oa_Mof (by decide) (Nat.le_of_ble_eq_true rfl) (fun G A hl C => ?_)
  subst hl
  have C : oa_C G cX6_always 5 RX6 (some .int) rm_X6_always O A := C
  have hf : f_X6_always B J = some res := hf
  delta f_X6_always at hf
  show ww G 5 O A (oa_Q G O A (0, 0) (some (.int res.1)) (fun W1 => W1 = wd_O O a res.2 J)) (0, 0) 0 [(0, .ref (a 0))] [] (wd_O O a B J)
  refine ww_aload_n (pc := 0) (i := 0) C 0 dX6_always_0 rfl rfl ?_
  refine ww_get (pc := 1) C fl_X6_16 0 rfl rfl dX6_always_1 ?_
  refine ww_aload_n (pc := 4) (i := 0) C 0 dX6_always_4 rfl rfl ?_
  refine ww_get (pc := 5) C fl_X6_10 0 rfl rfl dX6_always_5 ?_
  obtain ⟨V1, e2, hf⟩ := oa_bind hf
  obtain ⟨B4, e5, hf⟩ := oa_letE hf
  refine ww_callV (pc := 8) (As := [.ref (a 1)]) (rest := []) (wd := wd_VV O (fun i => a (i + 7)) (fun i => a (i + 1)) V1 (B 0)) (ws' := wd_O O a B4 J) (rv := none) C hY_X5_copyOf hV_X5_copyOf lk_X6_89 (m_X5_copyOf _ O (fun i => a (i + 7)) (fun i => a (i + 1)) (B 1) (B 0) _ e2) [7, 8, 9, 10, 11, 12, 1, 2, 3, 4, 5, 6] 7 rfl rfl rfl rfl rfl (by subst e5; rfl) (fun _ h => h) ⟨rfl, rfl⟩ ⟨Nat.zero_le _, Nat.zero_le _⟩ ⟨Nat.le_of_ble_eq_true rfl, Nat.le_of_ble_eq_true rfl⟩ rfl (Nat.le_of_ble_eq_true rfl) rfl rfl dX6_always_8 ?_
  refine ww_aload_n (pc := 11) (i := 0) C 0 dX6_always_11 rfl rfl ?_
  refine ww_get (pc := 12) C fl_X6_16 0 rfl rfl dX6_always_12 ?_
  refine ww_aload_n (pc := 15) (i := 0) C 0 dX6_always_15 rfl rfl ?_
  refine ww_get (pc := 16) C fl_X6_10 0 rfl rfl dX6_always_16 ?_
  obtain ⟨y6, e7, hf⟩ := oa_bind hf
  refine ww_callV (pc := 19) (As := []) (rest := [.ref (a 7)]) (wd := wd_V O (fun i => a (i + 1)) (B4 0)) (ws' := wd_O O a B4 J) (rv := (some (.int y6))) C hY_X5_everybody hV_X5_everybody lk_X6_222 (m_X5_everybody _ O (fun i => a (i + 1)) (B4 0) _ e7) [1, 2, 3, 4, 5, 6] 1 rfl rfl rfl rfl rfl (oa_putS _ _ _ rfl) (fun _ h => h) ⟨rfl, rfl⟩ ⟨Nat.zero_le _, Nat.zero_le _⟩ ⟨Nat.le_of_ble_eq_true rfl, Nat.le_of_ble_eq_true rfl⟩ rfl (Nat.le_of_ble_eq_true rfl) rfl rfl dX6_always_19 ?_
  obtain ⟨V9, e10, hf⟩ := oa_bind hf
  obtain ⟨B12, e13, hf⟩ := oa_letE hf
  refine ww_callV (pc := 22) (As := [.int y6]) (rest := []) (wd := wd_V O (fun i => a (i + 7)) V9) (ws' := wd_O O a B12 J) (rv := none) C hY_X5_makeReady hV_X5_makeReady lk_X6_218 (m_X5_makeReady _ O (fun i => a (i + 7)) (B4 1) y6 _ e10) [7, 8, 9, 10, 11, 12] 7 rfl rfl rfl rfl rfl (by subst e13; rfl) (fun _ h => h) ⟨rfl, rfl⟩ ⟨Nat.zero_le _, Nat.zero_le _⟩ ⟨Nat.le_of_ble_eq_true rfl, Nat.le_of_ble_eq_true rfl⟩ rfl (Nat.le_of_ble_eq_true rfl) rfl rfl dX6_always_22 ?_
  refine ww_aload_n (pc := 25) (i := 0) C 0 dX6_always_25 rfl rfl ?_
  refine ww_get (pc := 26) C fl_X6_16 0 rfl rfl dX6_always_26 ?_
  obtain ⟨y14, e15, hf⟩ := oa_bind hf
  refine ww_callV (pc := 29) (As := []) (rest := []) (wd := wd_V O (fun i => a (i + 7)) (B12 1)) (ws' := wd_O O a B12 J) (rv := (some (.long y14))) C hY_X5_openWrongs hV_X5_openWrongs lk_X6_192 (m_X5_openWrongs _ O (fun i => a (i + 7)) (B12 1) _ e15) [7, 8, 9, 10, 11, 12] 7 rfl rfl rfl rfl rfl (oa_putS _ _ _ rfl) (fun _ h => h) ⟨rfl, rfl⟩ ⟨Nat.zero_le _, Nat.zero_le _⟩ ⟨Nat.le_of_ble_eq_true rfl, Nat.le_of_ble_eq_true rfl⟩ rfl (Nat.le_of_ble_eq_true rfl) rfl rfl dX6_always_29 ?_
  refine ww_lstore_n (pc := 32) (L' := [(0, .ref (a 0)), (1, .long y14)]) C [1, 0] dX6_always_32 rfl (Nat.le_of_ble_eq_true rfl) rfl ?_
  refine ww_iconst (pc := 33) C dX6_always_33 kc_0 ?_
  refine ww_istore_n (pc := 34) (L' := [(0, .ref (a 0)), (1, .long y14), (3, .int 0)]) C [1, 2, 0] dX6_always_34 rfl (Nat.le_of_ble_eq_true rfl) rfl ?_
  refine ww_iconst (pc := 35) C dX6_always_35 kc_0 ?_
  refine ww_istore (pc := 36) (L' := [(0, .ref (a 0)), (1, .long y14), (3, .int 0), (4, .int 0)]) C [1, 2, 3, 0] dX6_always_36 (Nat.le_of_ble_eq_true rfl) rfl ?_
  refine ww_sub C [1, 2, 3] rfl ?_
  exact t_l_X6_always_38 C J B12 y14   oa_fu 0 0 hf
theorem dX6_back_0 : decode cX6_back 0 = .ok (.iload_n 1, 1) := by decide +kernel
theorem dX6_back_1 : decode cX6_back 1 = .ok (.iconst 0, 1) := by decide +kernel
theorem dX6_back_2 : decode cX6_back 2 = .ok (.iconst 1, 1) := by decide +kernel
theorem dX6_back_3 : decode cX6_back 3 = .ok (.invokestatic 96, 3) := by decide +kernel
theorem dX6_back_6 : decode cX6_back 6 = .ok (.ifCond .ne 5, 3) := by decide +kernel
theorem dX6_back_9 : decode cX6_back 9 = .ok (.iconst (-1), 1) := by decide +kernel
theorem dX6_back_10 : decode cX6_back 10 = .ok (.ireturn, 1) := by decide +kernel
theorem dX6_back_11 : decode cX6_back 11 = .ok (.aload_n 0, 1) := by decide +kernel
theorem dX6_back_12 : decode cX6_back 12 = .ok (.getfield 30, 3) := by decide +kernel
theorem dX6_back_15 : decode cX6_back 15 = .ok (.iload_n 1, 1) := by decide +kernel
theorem dX6_back_16 : decode cX6_back 16 = .ok (.baload, 1) := by decide +kernel
theorem dX6_back_17 : decode cX6_back 17 = .ok (.ifCond .ne 6, 3) := by decide +kernel
theorem dX6_back_20 : decode cX6_back 20 = .ok (.bipush (-2), 2) := by decide +kernel
theorem dX6_back_22 : decode cX6_back 22 = .ok (.ireturn, 1) := by decide +kernel
theorem dX6_back_23 : decode cX6_back 23 = .ok (.aload_n 0, 1) := by decide +kernel
theorem dX6_back_24 : decode cX6_back 24 = .ok (.getfield 10, 3) := by decide +kernel
theorem dX6_back_27 : decode cX6_back 27 = .ok (.aload_n 0, 1) := by decide +kernel
theorem dX6_back_28 : decode cX6_back 28 = .ok (.getfield 26, 3) := by decide +kernel
theorem dX6_back_31 : decode cX6_back 31 = .ok (.iload_n 1, 1) := by decide +kernel
theorem dX6_back_32 : decode cX6_back 32 = .ok (.aaload, 1) := by decide +kernel
theorem dX6_back_33 : decode cX6_back 33 = .ok (.invokevirtual 89, 3) := by decide +kernel
theorem dX6_back_36 : decode cX6_back 36 = .ok (.aload_n 0, 1) := by decide +kernel
theorem dX6_back_37 : decode cX6_back 37 = .ok (.getfield 10, 3) := by decide +kernel
theorem dX6_back_40 : decode cX6_back 40 = .ok (.getfield 179, 3) := by decide +kernel
theorem dX6_back_43 : decode cX6_back 43 = .ok (.ireturn, 1) := by decide +kernel
abbrev rm_X6_back : Room := { frames := 2, cells := 0, slots := 0, locals := 45 }
theorem m_X6_back (l : Launch) (O : oa_O) (a : Nat → Nat) (B : oa_I3) (J : oa_J2) (x1 : Int32) (res : Int32 × oa_I3) (hf : f_X6_back B J x1 = some res) : oa_M l yX6_back cX6_back 2 (some .int) rm_X6_back O [.ref (a 0), .int x1] (wd_O O a B J) (some (.int res.1)) (fun W1 => W1 = wd_O O a res.2 J) := by
  refine oa_Mof (by decide) (Nat.le_of_ble_eq_true rfl) (fun G A hl C => ?_)
  subst hl
  have C : oa_C G cX6_back 2 RX6 (some .int) rm_X6_back O A := C
  have hf : f_X6_back B J x1 = some res := hf
  delta f_X6_back at hf
  show ww G 2 O A (oa_Q G O A (0, 0) (some (.int res.1)) (fun W1 => W1 = wd_O O a res.2 J)) (0, 0) 0 [(0, .ref (a 0)), (1, .int x1)] [] (wd_O O a B J)
  refine ww_iload_n (pc := 0) (i := 1) C 1 dX6_back_0 rfl rfl ?_
  refine ww_iconst (pc := 1) C dX6_back_1 kc_0 ?_
  refine ww_iconst (pc := 2) C dX6_back_2 kc_1 ?_
  obtain ⟨y1, e2, hf⟩ := oa_bind hf
  refine ww_callS (pc := 3) (As := [.int x1, .int 0, .int 1]) (rest := []) (wd := []) (ws' := wd_O O a B J) (rv := (some (.int y1))) C hY_X6_within hS_X6_within lk_X6_96 (m_X6_within _ O  x1 0 1 _ e2) [] rfl rfl rfl (oa_putS _ _ _ rfl) (fun _ h => h) ⟨rfl, rfl⟩ ⟨Nat.zero_le _, Nat.zero_le _⟩ ⟨Nat.le_of_ble_eq_true rfl, Nat.le_of_ble_eq_true rfl⟩ rfl (Nat.le_of_ble_eq_true rfl) rfl rfl dX6_back_3 ?_
  refine ww_if_ne (pc := 6) (tgt := 11) C dX6_back_6 (by decide) (fun c4 => ?_) (fun c4 => ?_)
  · have hf := oa_ifn c4 hf
    refine ww_aload_n (pc := 11) (i := 0) C 0 dX6_back_11 rfl rfl ?_
    refine ww_get (pc := 12) C fl_X6_30 0 rfl rfl dX6_back_12 ?_
    refine ww_iload_n (pc := 15) (i := 1) C 1 dX6_back_15 rfl rfl ?_
    obtain ⟨y5, e6, hf⟩ := oa_bind hf
    refine ww_zald (pc := 16) C 22 rfl e6 dX6_back_16 ?_
    refine ww_if_ne (pc := 17) (tgt := 23) C dX6_back_17 (by decide) (fun c7 => ?_) (fun c7 => ?_)
    · have hf := oa_ifn c7 hf
      refine ww_aload_n (pc := 23) (i := 0) C 0 dX6_back_23 rfl rfl ?_
      refine ww_get (pc := 24) C fl_X6_10 0 rfl rfl dX6_back_24 ?_
      refine ww_aload_n (pc := 27) (i := 0) C 0 dX6_back_27 rfl rfl ?_
      refine ww_get (pc := 28) C fl_X6_26 0 rfl rfl dX6_back_28 ?_
      refine ww_iload_n (pc := 31) (i := 1) C 1 dX6_back_31 rfl rfl ?_
      by_cases c8 : x1 = 0
      · have hf := oa_ifp c8 hf
        refine ww_aald (pc := 32) (i0 := 0) (b := (a 30)) (Cn := "OneAnger$Village") C 21 rfl rfl c8 (by decide) (by decide) rfl dX6_back_32 ?_
        obtain ⟨V9, e10, hf⟩ := oa_bind hf
        obtain ⟨B12, e13, hf⟩ := oa_letE hf
        refine ww_callV (pc := 33) (As := [.ref (a 30)]) (rest := []) (wd := wd_VV O (fun i => a (i + 1)) (fun i => a (i + 30)) V9 (B 3)) (ws' := wd_O O a B12 J) (rv := none) C hY_X5_copyOf hV_X5_copyOf lk_X6_89 (m_X5_copyOf _ O (fun i => a (i + 1)) (fun i => a (i + 30)) (B 0) (B 3) _ e10) [1, 2, 3, 4, 5, 6, 30, 31, 32, 33, 34, 35] 1 rfl rfl rfl rfl rfl (by subst e13; rfl) (fun _ h => h) ⟨rfl, rfl⟩ ⟨Nat.zero_le _, Nat.zero_le _⟩ ⟨Nat.le_of_ble_eq_true rfl, Nat.le_of_ble_eq_true rfl⟩ rfl (Nat.le_of_ble_eq_true rfl) rfl rfl dX6_back_33 ?_
        refine ww_aload_n (pc := 36) (i := 0) C 0 dX6_back_36 rfl rfl ?_
        refine ww_get (pc := 37) C fl_X6_10 0 rfl rfl dX6_back_37 ?_
        refine ww_get (pc := 40) C fl_X6_179 1 rfl rfl dX6_back_40 ?_
        obtain rfl := Option.some.inj hf
        exact ww_iret (pc := 43) C rfl dX6_back_43
      have hf := oa_ifn c8 hf
      by_cases c14 : x1 = 1
      · have hf := oa_ifp c14 hf
        refine ww_aald (pc := 32) (i0 := 1) (b := (a 36)) (Cn := "OneAnger$Village") C 21 rfl rfl c14 (by decide) (by decide) rfl dX6_back_32 ?_
        obtain ⟨V15, e16, hf⟩ := oa_bind hf
        obtain ⟨B18, e19, hf⟩ := oa_letE hf
        refine ww_callV (pc := 33) (As := [.ref (a 36)]) (rest := []) (wd := wd_VV O (fun i => a (i + 1)) (fun i => a (i + 36)) V15 (B 4)) (ws' := wd_O O a B18 J) (rv := none) C hY_X5_copyOf hV_X5_copyOf lk_X6_89 (m_X5_copyOf _ O (fun i => a (i + 1)) (fun i => a (i + 36)) (B 0) (B 4) _ e16) [1, 2, 3, 4, 5, 6, 36, 37, 38, 39, 40, 41] 1 rfl rfl rfl rfl rfl (by subst e19; rfl) (fun _ h => h) ⟨rfl, rfl⟩ ⟨Nat.zero_le _, Nat.zero_le _⟩ ⟨Nat.le_of_ble_eq_true rfl, Nat.le_of_ble_eq_true rfl⟩ rfl (Nat.le_of_ble_eq_true rfl) rfl rfl dX6_back_33 ?_
        refine ww_aload_n (pc := 36) (i := 0) C 0 dX6_back_36 rfl rfl ?_
        refine ww_get (pc := 37) C fl_X6_10 0 rfl rfl dX6_back_37 ?_
        refine ww_get (pc := 40) C fl_X6_179 1 rfl rfl dX6_back_40 ?_
        obtain rfl := Option.some.inj hf
        exact ww_iret (pc := 43) C rfl dX6_back_43
      have hf := oa_ifn c14 hf
      exact nomatch hf
    · have hf := oa_ifp c7 hf
      refine ww_bipush (pc := 20) C dX6_back_20 kb_m2 ?_
      obtain rfl := Option.some.inj hf
      exact ww_iret (pc := 22) C rfl dX6_back_22
  · have hf := oa_ifp c4 hf
    refine ww_iconst (pc := 9) C dX6_back_9 kc_m1 ?_
    obtain rfl := Option.some.inj hf
    exact ww_iret (pc := 10) C rfl dX6_back_10
theorem dX6_commonDivisor_0 : decode cX6_commonDivisor 0 = .ok (.lload_n 0, 1) := by decide +kernel
theorem dX6_commonDivisor_1 : decode cX6_commonDivisor 1 = .ok (.lstore 4, 2) := by decide +kernel
theorem dX6_commonDivisor_3 : decode cX6_commonDivisor 3 = .ok (.lload_n 2, 1) := by decide +kernel
theorem dX6_commonDivisor_4 : decode cX6_commonDivisor 4 = .ok (.lstore 6, 2) := by decide +kernel
theorem dX6_commonDivisor_6 : decode cX6_commonDivisor 6 = .ok (.iconst 0, 1) := by decide +kernel
theorem dX6_commonDivisor_7 : decode cX6_commonDivisor 7 = .ok (.istore 8, 2) := by decide +kernel
theorem dX6_commonDivisor_9 : decode cX6_commonDivisor 9 = .ok (.iload 8, 2) := by decide +kernel
theorem dX6_commonDivisor_11 : decode cX6_commonDivisor 11 = .ok (.bipush 100, 2) := by decide +kernel
theorem dX6_commonDivisor_13 : decode cX6_commonDivisor 13 = .ok (.if_icmp .ge 31, 3) := by decide +kernel
theorem dX6_commonDivisor_16 : decode cX6_commonDivisor 16 = .ok (.lload 6, 2) := by decide +kernel
theorem dX6_commonDivisor_18 : decode cX6_commonDivisor 18 = .ok (.lconst 0, 1) := by decide +kernel
theorem dX6_commonDivisor_19 : decode cX6_commonDivisor 19 = .ok (.lcmp, 1) := by decide +kernel
theorem dX6_commonDivisor_20 : decode cX6_commonDivisor 20 = .ok (.ifCond .eq 24, 3) := by decide +kernel
theorem dX6_commonDivisor_23 : decode cX6_commonDivisor 23 = .ok (.lload 4, 2) := by decide +kernel
theorem dX6_commonDivisor_25 : decode cX6_commonDivisor 25 = .ok (.lload 6, 2) := by decide +kernel
theorem dX6_commonDivisor_27 : decode cX6_commonDivisor 27 = .ok (.lrem, 1) := by decide +kernel
theorem dX6_commonDivisor_28 : decode cX6_commonDivisor 28 = .ok (.lstore 9, 2) := by decide +kernel
theorem dX6_commonDivisor_30 : decode cX6_commonDivisor 30 = .ok (.lload 6, 2) := by decide +kernel
theorem dX6_commonDivisor_32 : decode cX6_commonDivisor 32 = .ok (.lstore 4, 2) := by decide +kernel
theorem dX6_commonDivisor_34 : decode cX6_commonDivisor 34 = .ok (.lload 9, 2) := by decide +kernel
theorem dX6_commonDivisor_36 : decode cX6_commonDivisor 36 = .ok (.lstore 6, 2) := by decide +kernel
theorem dX6_commonDivisor_38 : decode cX6_commonDivisor 38 = .ok (.iinc 8 1, 3) := by decide +kernel
theorem dX6_commonDivisor_41 : decode cX6_commonDivisor 41 = .ok (.goto (-32), 3) := by decide +kernel
theorem dX6_commonDivisor_44 : decode cX6_commonDivisor 44 = .ok (.lload 4, 2) := by decide +kernel
theorem dX6_commonDivisor_46 : decode cX6_commonDivisor 46 = .ok (.lreturn, 1) := by decide +kernel
abbrev rm_X6_commonDivisor : Room := { frames := 0, cells := 0, slots := 0, locals := 0 }
theorem t_b_X6_commonDivisor_9 {G : oa_G} {O : oa_O} {A : Nat → Prop}  {res : Int64} (C : oa_C G cX6_commonDivisor 11 RX6 (some .long) rm_X6_commonDivisor O A) (x0 : Int64) (x2 : Int64)    (k9 : Int64 → Int64 → Int32 → Option (Int64))  (hk9 : ∀ (b_x4 : Int64) (b_x6 : Int64) (b_x8 : Int32), k9 b_x4 b_x6 b_x8 = some res → ww G 11 O A (oa_Q G O A (0, 0) (some (.long res)) (fun W1 => W1 = [])) (0, 0) 9 [(4, .long b_x4), (6, .long b_x6), (8, .int b_x8)] [] ([])) (x4 : Int64) (x6 : Int64) (x8 : Int32) (hf : b_X6_commonDivisor_9 x0 x2 k9 x4 x6 x8 = some res) : ww G 11 O A (oa_Q G O A (0, 0) (some (.long res)) (fun W1 => W1 = [])) (0, 0) 9 [(4, .long x4), (6, .long x6), (8, .int x8)] [] ([]) := by
  delta b_X6_commonDivisor_9 at hf
  refine ww_iload (pc := 9) (i := 8) C 2 dX6_commonDivisor_9 rfl ?_
  refine ww_bipush (pc := 11) C dX6_commonDivisor_11 kb_100 ?_
  refine ww_icmp_ge (pc := 13) (tgt := 44) C dX6_commonDivisor_13 (by decide) (fun c1 => ?_) (fun c1 => ?_)
  · have hf := oa_ifp c1 hf
    refine ww_lload (pc := 44) (i := 4) C 0 dX6_commonDivisor_44 rfl ?_
    obtain rfl := Option.some.inj hf
    exact ww_lret (pc := 46) C rfl dX6_commonDivisor_46
  · have hf := oa_ifn c1 hf
    refine ww_lload (pc := 16) (i := 6) C 1 dX6_commonDivisor_16 rfl ?_
    refine ww_lconst (pc := 18) C dX6_commonDivisor_18 kl_0 ?_
    refine ww_lcmp (pc := 19) C dX6_commonDivisor_19 ?_
    refine ww_if_eq (pc := 20) (tgt := 44) C dX6_commonDivisor_20 (by decide) (fun c2 => ?_) (fun c2 => ?_)
    · have hf := oa_ifp c2 hf
      refine ww_lload (pc := 44) (i := 4) C 0 dX6_commonDivisor_44 rfl ?_
      obtain rfl := Option.some.inj hf
      exact ww_lret (pc := 46) C rfl dX6_commonDivisor_46
    · have hf := oa_ifn c2 hf
      refine ww_lload (pc := 23) (i := 4) C 0 dX6_commonDivisor_23 rfl ?_
      refine ww_lload (pc := 25) (i := 6) C 1 dX6_commonDivisor_25 rfl ?_
      by_cases c3 : x6 = 0
      · exact nomatch (oa_ifp c3 hf)
      have hf := oa_ifn c3 hf
      refine ww_lrem (pc := 27) C dX6_commonDivisor_27 c3 ?_
      obtain ⟨y4, e5, hf⟩ := oa_letE hf
      refine ww_topl C e5 ?_
      refine ww_lstore (pc := 28) (L' := [(4, .long x4), (6, .long x6), (8, .int x8), (9, .long y4)]) C [1, 2, 3, 0] dX6_commonDivisor_28 (Nat.le_of_ble_eq_true rfl) rfl ?_
      refine ww_lload (pc := 30) (i := 6) C 1 dX6_commonDivisor_30 rfl ?_
      refine ww_lstore (pc := 32) (L' := [(4, .long x6), (6, .long x6), (8, .int x8), (9, .long y4)]) C [0, 1, 2, 3] dX6_commonDivisor_32 (Nat.le_of_ble_eq_true rfl) rfl ?_
      refine ww_lload (pc := 34) (i := 9) C 3 dX6_commonDivisor_34 rfl ?_
      refine ww_lstore (pc := 36) (L' := [(4, .long x6), (6, .long y4), (8, .int x8), (9, .long y4)]) C [1, 0, 2, 3] dX6_commonDivisor_36 (Nat.le_of_ble_eq_true rfl) rfl ?_
      refine ww_iinc (pc := 38) (v := (x8 + 1)) (L' := [(4, .long x6), (6, .long y4), (8, .int (x8 + 1)), (9, .long y4)]) C 2 [1, 2, 0, 3] dX6_commonDivisor_38 rfl (ki_1 _) (Nat.le_of_ble_eq_true rfl) rfl ?_
      refine ww_goto (pc := 41) (tgt := 9) C dX6_commonDivisor_41 (by decide) ?_
      refine ww_sub C [0, 1, 2] rfl ?_
      exact hk9 x6 y4 (x8 + 1) hf
theorem t_l_X6_commonDivisor_9 {G : oa_G} {O : oa_O} {A : Nat → Prop}  {res : Int64} (C : oa_C G cX6_commonDivisor 11 RX6 (some .long) rm_X6_commonDivisor O A) (x0 : Int64) (x2 : Int64)    : ∀ (n : Nat) (x4 : Int64) (x6 : Int64) (x8 : Int32), l_X6_commonDivisor_9 x0 x2 n x4 x6 x8 = some res → ww G 11 O A (oa_Q G O A (0, 0) (some (.long res)) (fun W1 => W1 = [])) (0, 0) 9 [(4, .long x4), (6, .long x6), (8, .int x8)] [] ([]) := by
  intro n
  induction n with
  | zero => intro x4 x6 x8 hf; exact absurd (show (none : Option (Int64)) = some res from hf) (fun h => nomatch h)
  | succ n ih =>
    intro x4 x6 x8 hf
    exact t_b_X6_commonDivisor_9 C x0 x2  (fun x4 x6 x8 => l_X6_commonDivisor_9 x0 x2 n x4 x6 x8)  (fun x4 x6 x8 h => ih x4 x6 x8 h) x4 x6 x8 hf
theorem m_X6_commonDivisor (l : Launch) (O : oa_O)   (x0 : Int64) (x2 : Int64) (res : Int64) (hf : f_X6_commonDivisor x0 x2 = some res) : oa_M l yX6_commonDivisor cX6_commonDivisor 11 (some .long) rm_X6_commonDivisor O [.long x0, .long x2] ([]) (some (.long res)) (fun W1 => W1 = []) := by
  refine oa_Mof (by decide) (Nat.le_of_ble_eq_true rfl) (fun G A hl C => ?_)
  subst hl
  have C : oa_C G cX6_commonDivisor 11 RX6 (some .long) rm_X6_commonDivisor O A := C
  have hf : f_X6_commonDivisor x0 x2 = some res := hf
  delta f_X6_commonDivisor at hf
  show ww G 11 O A (oa_Q G O A (0, 0) (some (.long res)) (fun W1 => W1 = [])) (0, 0) 0 [(0, .long x0), (2, .long x2)] [] ([])
  refine ww_lload_n (pc := 0) (i := 0) C 0 dX6_commonDivisor_0 rfl rfl ?_
  refine ww_lstore (pc := 1) (L' := [(0, .long x0), (2, .long x2), (4, .long x0)]) C [1, 2, 0] dX6_commonDivisor_1 (Nat.le_of_ble_eq_true rfl) rfl ?_
  refine ww_lload_n (pc := 3) (i := 2) C 1 dX6_commonDivisor_3 rfl rfl ?_
  refine ww_lstore (pc := 4) (L' := [(0, .long x0), (2, .long x2), (4, .long x0), (6, .long x2)]) C [1, 2, 3, 0] dX6_commonDivisor_4 (Nat.le_of_ble_eq_true rfl) rfl ?_
  refine ww_iconst (pc := 6) C dX6_commonDivisor_6 kc_0 ?_
  refine ww_istore (pc := 7) (L' := [(0, .long x0), (2, .long x2), (4, .long x0), (6, .long x2), (8, .int 0)]) C [1, 2, 3, 4, 0] dX6_commonDivisor_7 (Nat.le_of_ble_eq_true rfl) rfl ?_
  refine ww_sub C [2, 3, 4] rfl ?_
  exact t_l_X6_commonDivisor_9 C x0 x2    oa_fu x0 x2 0 hf
theorem dX6_count_0 : decode cX6_count 0 = .ok (.iload_n 1, 1) := by decide +kernel
theorem dX6_count_1 : decode cX6_count 1 = .ok (.tableswitch 103 0 4 #[35, 43, 55, 85, 93], 35) := by decide +kernel
theorem dX6_count_36 : decode cX6_count 36 = .ok (.aload_n 0, 1) := by decide +kernel
theorem dX6_count_37 : decode cX6_count 37 = .ok (.getfield 10, 3) := by decide +kernel
theorem dX6_count_40 : decode cX6_count 40 = .ok (.getfield 210, 3) := by decide +kernel
theorem dX6_count_43 : decode cX6_count 43 = .ok (.ireturn, 1) := by decide +kernel
theorem dX6_count_44 : decode cX6_count 44 = .ok (.aload_n 0, 1) := by decide +kernel
theorem dX6_count_45 : decode cX6_count 45 = .ok (.getfield 10, 3) := by decide +kernel
theorem dX6_count_48 : decode cX6_count 48 = .ok (.iconst 2, 1) := by decide +kernel
theorem dX6_count_49 : decode cX6_count 49 = .ok (.invokevirtual 289, 3) := by decide +kernel
theorem dX6_count_52 : decode cX6_count 52 = .ok (.invokestatic 213, 3) := by decide +kernel
theorem dX6_count_55 : decode cX6_count 55 = .ok (.ireturn, 1) := by decide +kernel
theorem dX6_count_56 : decode cX6_count 56 = .ok (.aload_n 0, 1) := by decide +kernel
theorem dX6_count_57 : decode cX6_count 57 = .ok (.getfield 30, 3) := by decide +kernel
theorem dX6_count_60 : decode cX6_count 60 = .ok (.iconst 0, 1) := by decide +kernel
theorem dX6_count_61 : decode cX6_count 61 = .ok (.baload, 1) := by decide +kernel
theorem dX6_count_62 : decode cX6_count 62 = .ok (.ifCond .eq 7, 3) := by decide +kernel
theorem dX6_count_65 : decode cX6_count 65 = .ok (.iconst 1, 1) := by decide +kernel
theorem dX6_count_66 : decode cX6_count 66 = .ok (.goto 4, 3) := by decide +kernel
theorem dX6_count_69 : decode cX6_count 69 = .ok (.iconst 0, 1) := by decide +kernel
theorem dX6_count_70 : decode cX6_count 70 = .ok (.aload_n 0, 1) := by decide +kernel
theorem dX6_count_71 : decode cX6_count 71 = .ok (.getfield 30, 3) := by decide +kernel
theorem dX6_count_74 : decode cX6_count 74 = .ok (.iconst 1, 1) := by decide +kernel
theorem dX6_count_75 : decode cX6_count 75 = .ok (.baload, 1) := by decide +kernel
theorem dX6_count_76 : decode cX6_count 76 = .ok (.ifCond .eq 7, 3) := by decide +kernel
theorem dX6_count_79 : decode cX6_count 79 = .ok (.iconst 1, 1) := by decide +kernel
theorem dX6_count_80 : decode cX6_count 80 = .ok (.goto 4, 3) := by decide +kernel
theorem dX6_count_83 : decode cX6_count 83 = .ok (.iconst 0, 1) := by decide +kernel
theorem dX6_count_84 : decode cX6_count 84 = .ok (.iadd, 1) := by decide +kernel
theorem dX6_count_85 : decode cX6_count 85 = .ok (.ireturn, 1) := by decide +kernel
theorem dX6_count_86 : decode cX6_count 86 = .ok (.aload_n 0, 1) := by decide +kernel
theorem dX6_count_87 : decode cX6_count 87 = .ok (.getfield 22, 3) := by decide +kernel
theorem dX6_count_90 : decode cX6_count 90 = .ok (.getfield 292, 3) := by decide +kernel
theorem dX6_count_93 : decode cX6_count 93 = .ok (.ireturn, 1) := by decide +kernel
theorem dX6_count_94 : decode cX6_count 94 = .ok (.aload_n 0, 1) := by decide +kernel
theorem dX6_count_95 : decode cX6_count 95 = .ok (.getfield 36, 3) := by decide +kernel
theorem dX6_count_98 : decode cX6_count 98 = .ok (.iconst 0, 1) := by decide +kernel
theorem dX6_count_99 : decode cX6_count 99 = .ok (.aaload, 1) := by decide +kernel
theorem dX6_count_100 : decode cX6_count 100 = .ok (.getfield 295, 3) := by decide +kernel
theorem dX6_count_103 : decode cX6_count 103 = .ok (.ireturn, 1) := by decide +kernel
theorem dX6_count_104 : decode cX6_count 104 = .ok (.iconst (-1), 1) := by decide +kernel
theorem dX6_count_105 : decode cX6_count 105 = .ok (.ireturn, 1) := by decide +kernel
abbrev rm_X6_count : Room := { frames := 2, cells := 0, slots := 0, locals := 45 }
theorem t_b_X6_count_70 {G : oa_G} {O : oa_O} {A : Nat → Prop} {a : Nat → Nat} {res : Int32} (C : oa_C G cX6_count 2 RX6 (some .int) rm_X6_count O A) (B : oa_I3) (J : oa_J2) (x1 : Int32)  (s0 : Int32)    (hf : b_X6_count_70 B J x1 s0 = some res) : ww G 2 O A (oa_Q G O A (0, 0) (some (.int res)) (fun W1 => W1 = wd_O O a B J)) (0, 0) 70 [(0, .ref (a 0))] [.int s0] (wd_O O a B J) := by
  delta b_X6_count_70 at hf
  refine ww_aload_n (pc := 70) (i := 0) C 0 dX6_count_70 rfl rfl ?_
  refine ww_get (pc := 71) C fl_X6_30 0 rfl rfl dX6_count_71 ?_
  refine ww_iconst (pc := 74) C dX6_count_74 kc_1 ?_
  obtain ⟨y15, e16, hf⟩ := oa_bind hf
  refine ww_zald (pc := 75) C 22 rfl e16 dX6_count_75 ?_
  refine ww_if_eq (pc := 76) (tgt := 83) C dX6_count_76 (by decide) (fun c17 => ?_) (fun c17 => ?_)
  · have hf := oa_ifp c17 hf
    refine ww_iconst (pc := 83) C dX6_count_83 kc_0 ?_
    refine ww_iadd (pc := 84) C dX6_count_84 ?_
    obtain rfl := Option.some.inj hf
    exact ww_iret (pc := 85) C rfl dX6_count_85
  · have hf := oa_ifn c17 hf
    refine ww_iconst (pc := 79) C dX6_count_79 kc_1 ?_
    refine ww_goto (pc := 80) (tgt := 84) C dX6_count_80 (by decide) ?_
    refine ww_iadd (pc := 84) C dX6_count_84 ?_
    obtain rfl := Option.some.inj hf
    exact ww_iret (pc := 85) C rfl dX6_count_85
theorem m_X6_count (l : Launch) (O : oa_O) (a : Nat → Nat) (B : oa_I3) (J : oa_J2) (x1 : Int32) (res : Int32) (hf : f_X6_count B J x1 = some res) : oa_M l yX6_count cX6_count 2 (some .int) rm_X6_count O [.ref (a 0), .int x1] (wd_O O a B J) (some (.int res)) (fun W1 => W1 = wd_O O a B J) := by
  refine oa_Mof (by decide) (Nat.le_of_ble_eq_true rfl) (fun G A hl C => ?_)
  subst hl
  have C : oa_C G cX6_count 2 RX6 (some .int) rm_X6_count O A := C
  have hf : f_X6_count B J x1 = some res := hf
  delta f_X6_count at hf
  show ww G 2 O A (oa_Q G O A (0, 0) (some (.int res)) (fun W1 => W1 = wd_O O a B J)) (0, 0) 0 [(0, .ref (a 0)), (1, .int x1)] [] (wd_O O a B J)
  refine ww_iload_n (pc := 0) (i := 1) C 1 dX6_count_0 rfl rfl ?_
  by_cases c1 : x1 = 0
  · have hf := oa_ifp c1 hf
    refine ww_tabI (pc := 1) (tgt := 36) C dX6_count_1 (by rw [c1] <;> decide) (by rw [c1] <;> decide) (by rw [c1] <;> rfl) (by decide) ?_
    refine ww_aload_n (pc := 36) (i := 0) C 0 dX6_count_36 rfl rfl ?_
    refine ww_get (pc := 37) C fl_X6_10 0 rfl rfl dX6_count_37 ?_
    refine ww_get (pc := 40) C fl_X6_210 1 rfl rfl dX6_count_40 ?_
    obtain rfl := Option.some.inj hf
    exact ww_iret (pc := 43) C rfl dX6_count_43
  have hf := oa_ifn c1 hf
  by_cases c2 : x1 = 1
  · have hf := oa_ifp c2 hf
    refine ww_tabI (pc := 1) (tgt := 44) C dX6_count_1 (by rw [c2] <;> decide) (by rw [c2] <;> decide) (by rw [c2] <;> rfl) (by decide) ?_
    refine ww_aload_n (pc := 44) (i := 0) C 0 dX6_count_44 rfl rfl ?_
    refine ww_get (pc := 45) C fl_X6_10 0 rfl rfl dX6_count_45 ?_
    refine ww_iconst (pc := 48) C dX6_count_48 kc_2 ?_
    obtain ⟨y3, e4, hf⟩ := oa_bind hf
    refine ww_callV (pc := 49) (As := [.int 2]) (rest := []) (wd := wd_V O (fun i => a (i + 1)) (B 0)) (ws' := wd_O O a B J) (rv := (some (.int y3))) C hY_X5_allOf hV_X5_allOf lk_X6_289 (m_X5_allOf _ O (fun i => a (i + 1)) (B 0) 2 _ e4) [1, 2, 3, 4, 5, 6] 1 rfl rfl rfl rfl rfl (oa_putS _ _ _ rfl) (fun _ h => h) ⟨rfl, rfl⟩ ⟨Nat.zero_le _, Nat.zero_le _⟩ ⟨Nat.le_of_ble_eq_true rfl, Nat.le_of_ble_eq_true rfl⟩ rfl (Nat.le_of_ble_eq_true rfl) rfl rfl dX6_count_49 ?_
    obtain ⟨y6, e7, hf⟩ := oa_bind hf
    refine ww_callS (pc := 52) (As := [.int y3]) (rest := []) (wd := []) (ws' := wd_O O a B J) (rv := (some (.int y6))) C hY_J6_bitCount_0f7a4 hS_J6_bitCount_0f7a4 lk_X6_213 (m_J6_bitCount_0f7a4 _ O  y3 _ e7) [] rfl rfl rfl (oa_putS _ _ _ rfl) (fun _ h => h) ⟨rfl, rfl⟩ ⟨Nat.zero_le _, Nat.zero_le _⟩ ⟨Nat.le_of_ble_eq_true rfl, Nat.le_of_ble_eq_true rfl⟩ rfl (Nat.le_of_ble_eq_true rfl) rfl rfl dX6_count_52 ?_
    obtain rfl := Option.some.inj hf
    exact ww_iret (pc := 55) C rfl dX6_count_55
  have hf := oa_ifn c2 hf
  by_cases c9 : x1 = 2
  · have hf := oa_ifp c9 hf
    refine ww_tabI (pc := 1) (tgt := 56) C dX6_count_1 (by rw [c9] <;> decide) (by rw [c9] <;> decide) (by rw [c9] <;> rfl) (by decide) ?_
    refine ww_aload_n (pc := 56) (i := 0) C 0 dX6_count_56 rfl rfl ?_
    refine ww_get (pc := 57) C fl_X6_30 0 rfl rfl dX6_count_57 ?_
    refine ww_iconst (pc := 60) C dX6_count_60 kc_0 ?_
    obtain ⟨y10, e11, hf⟩ := oa_bind hf
    refine ww_zald (pc := 61) C 22 rfl e11 dX6_count_61 ?_
    refine ww_if_eq (pc := 62) (tgt := 69) C dX6_count_62 (by decide) (fun c12 => ?_) (fun c12 => ?_)
    · have hf := oa_ifp c12 hf
      refine ww_iconst (pc := 69) C dX6_count_69 kc_0 ?_
      refine ww_sub C [0] rfl ?_
      exact t_b_X6_count_70 C B J x1 0   hf
    · have hf := oa_ifn c12 hf
      refine ww_iconst (pc := 65) C dX6_count_65 kc_1 ?_
      refine ww_goto (pc := 66) (tgt := 70) C dX6_count_66 (by decide) ?_
      refine ww_sub C [0] rfl ?_
      exact t_b_X6_count_70 C B J x1 1   hf
  have hf := oa_ifn c9 hf
  by_cases c13 : x1 = 3
  · have hf := oa_ifp c13 hf
    refine ww_tabI (pc := 1) (tgt := 86) C dX6_count_1 (by rw [c13] <;> decide) (by rw [c13] <;> decide) (by rw [c13] <;> rfl) (by decide) ?_
    refine ww_aload_n (pc := 86) (i := 0) C 0 dX6_count_86 rfl rfl ?_
    refine ww_get (pc := 87) C fl_X6_22 0 rfl rfl dX6_count_87 ?_
    refine ww_get (pc := 90) C fl_X6_292 13 rfl rfl dX6_count_90 ?_
    obtain rfl := Option.some.inj hf
    exact ww_iret (pc := 93) C rfl dX6_count_93
  have hf := oa_ifn c13 hf
  by_cases c14 : x1 = 4
  · have hf := oa_ifp c14 hf
    refine ww_tabI (pc := 1) (tgt := 94) C dX6_count_1 (by rw [c14] <;> decide) (by rw [c14] <;> decide) (by rw [c14] <;> rfl) (by decide) ?_
    refine ww_aload_n (pc := 94) (i := 0) C 0 dX6_count_94 rfl rfl ?_
    refine ww_get (pc := 95) C fl_X6_36 0 rfl rfl dX6_count_95 ?_
    refine ww_iconst (pc := 98) C dX6_count_98 kc_0 ?_
    refine ww_aald (pc := 99) (i0 := 0) (b := (a 42)) (Cn := "OneAnger$Sheet") C 23 rfl rfl (by decide) (by decide) (by decide) rfl dX6_count_99 ?_
    refine ww_get (pc := 100) C fl_X6_295 42 rfl rfl dX6_count_100 ?_
    obtain rfl := Option.some.inj hf
    exact ww_iret (pc := 103) C rfl dX6_count_103
  have hf := oa_ifn c14 hf
  refine ww_tabO (pc := 1) (tgt := 104) C dX6_count_1 (to_0_4 c1 c2 c9 c13 c14) (by decide) ?_
  refine ww_iconst (pc := 104) C dX6_count_104 kc_m1 ?_
  obtain rfl := Option.some.inj hf
  exact ww_iret (pc := 105) C rfl dX6_count_105
theorem dX6_end_0 : decode cX6_end 0 = .ok (.aload_n 0, 1) := by decide +kernel
theorem dX6_end_1 : decode cX6_end 1 = .ok (.getfield 22, 3) := by decide +kernel
theorem dX6_end_4 : decode cX6_end 4 = .ok (.iload_n 1, 1) := by decide +kernel
theorem dX6_end_5 : decode cX6_end 5 = .ok (.invokevirtual 73, 3) := by decide +kernel
theorem dX6_end_8 : decode cX6_end 8 = .ok (.ireturn, 1) := by decide +kernel
abbrev rm_X6_end : Room := { frames := 2, cells := 0, slots := 0, locals := 44 }
theorem m_X6_end (l : Launch) (O : oa_O) (a : Nat → Nat) (B : oa_I3) (J : oa_J2) (x1 : Int32) (res : Int32 × oa_I3) (hf : f_X6_end B J x1 = some res) : oa_M l yX6_end cX6_end 2 (some .int) rm_X6_end O [.ref (a 0), .int x1] (wd_O O a B J) (some (.int res.1)) (fun W1 => W1 = wd_O O a res.2 J) := by
  refine oa_Mof (by decide) (Nat.le_of_ble_eq_true rfl) (fun G A hl C => ?_)
  subst hl
  have C : oa_C G cX6_end 2 RX6 (some .int) rm_X6_end O A := C
  have hf : f_X6_end B J x1 = some res := hf
  delta f_X6_end at hf
  show ww G 2 O A (oa_Q G O A (0, 0) (some (.int res.1)) (fun W1 => W1 = wd_O O a res.2 J)) (0, 0) 0 [(0, .ref (a 0)), (1, .int x1)] [] (wd_O O a B J)
  refine ww_aload_n (pc := 0) (i := 0) C 0 dX6_end_0 rfl rfl ?_
  refine ww_get (pc := 1) C fl_X6_22 0 rfl rfl dX6_end_1 ?_
  refine ww_iload_n (pc := 4) (i := 1) C 1 dX6_end_4 rfl rfl ?_
  obtain ⟨y1, T2, e3, hf⟩ := oa_bind2 hf
  obtain ⟨B5, e6, hf⟩ := oa_letE hf
  refine ww_callV (pc := 5) (As := [.int x1]) (rest := []) (wd := wd_T O (fun i => a (i + 13)) (fun i => a (i + 15)) T2 (B 2)) (ws' := wd_O O a B5 J) (rv := (some (.int y1))) C hY_X4_cut hV_X4_cut lk_X6_73 (m_X4_cut _ O (fun i => a (i + 13)) (fun i => a (i + 15)) (B 5) (B 2) x1 _ e3) [13, 14, 15, 16, 17, 18, 19, 20] 13 rfl rfl rfl rfl rfl (by subst e6; rfl) (fun _ h => h) ⟨rfl, rfl⟩ ⟨Nat.zero_le _, Nat.zero_le _⟩ ⟨Nat.le_of_ble_eq_true rfl, Nat.le_of_ble_eq_true rfl⟩ rfl (Nat.le_of_ble_eq_true rfl) rfl rfl dX6_end_5 ?_
  obtain rfl := Option.some.inj hf
  exact ww_iret (pc := 8) C rfl dX6_end_8
theorem dX6_fault_0 : decode cX6_fault 0 = .ok (.aload_n 0, 1) := by decide +kernel
theorem dX6_fault_1 : decode cX6_fault 1 = .ok (.getfield 61, 3) := by decide +kernel
theorem dX6_fault_4 : decode cX6_fault 4 = .ok (.ireturn, 1) := by decide +kernel
abbrev rm_X6_fault : Room := { frames := 0, cells := 0, slots := 0, locals := 0 }
theorem m_X6_fault (l : Launch) (O : oa_O) (a : Nat → Nat) (B : oa_I3) (J : oa_J2)  (res : Int32) (hf : f_X6_fault B J = some res) : oa_M l yX6_fault cX6_fault 1 (some .int) rm_X6_fault O [.ref (a 0)] (wd_O O a B J) (some (.int res)) (fun W1 => W1 = wd_O O a B J) := by
  refine oa_Mof (by decide) (Nat.le_of_ble_eq_true rfl) (fun G A hl C => ?_)
  subst hl
  have C : oa_C G cX6_fault 1 RX6 (some .int) rm_X6_fault O A := C
  have hf : f_X6_fault B J = some res := hf
  delta f_X6_fault at hf
  show ww G 1 O A (oa_Q G O A (0, 0) (some (.int res)) (fun W1 => W1 = wd_O O a B J)) (0, 0) 0 [(0, .ref (a 0))] [] (wd_O O a B J)
  refine ww_aload_n (pc := 0) (i := 0) C 0 dX6_fault_0 rfl rfl ?_
  refine ww_get (pc := 1) C fl_X6_61 0 rfl rfl dX6_fault_1 ?_
  obtain rfl := Option.some.inj hf
  exact ww_iret (pc := 4) C rfl dX6_fault_4
theorem dX6_feed_0 : decode cX6_feed 0 = .ok (.aload_n 0, 1) := by decide +kernel
theorem dX6_feed_1 : decode cX6_feed 1 = .ok (.getfield 22, 3) := by decide +kernel
theorem dX6_feed_4 : decode cX6_feed 4 = .ok (.lload_n 1, 1) := by decide +kernel
theorem dX6_feed_5 : decode cX6_feed 5 = .ok (.invokevirtual 69, 3) := by decide +kernel
theorem dX6_feed_8 : decode cX6_feed 8 = .ok (.ireturn, 1) := by decide +kernel
abbrev rm_X6_feed : Room := { frames := 1, cells := 0, slots := 0, locals := 23 }
theorem m_X6_feed (l : Launch) (O : oa_O) (a : Nat → Nat) (B : oa_I3) (J : oa_J2) (x1 : Int64) (res : Int32 × oa_I3) (hf : f_X6_feed B J x1 = some res) : oa_M l yX6_feed cX6_feed 3 (some .int) rm_X6_feed O [.ref (a 0), .long x1] (wd_O O a B J) (some (.int res.1)) (fun W1 => W1 = wd_O O a res.2 J) := by
  refine oa_Mof (by decide) (Nat.le_of_ble_eq_true rfl) (fun G A hl C => ?_)
  subst hl
  have C : oa_C G cX6_feed 3 RX6 (some .int) rm_X6_feed O A := C
  have hf : f_X6_feed B J x1 = some res := hf
  delta f_X6_feed at hf
  show ww G 3 O A (oa_Q G O A (0, 0) (some (.int res.1)) (fun W1 => W1 = wd_O O a res.2 J)) (0, 0) 0 [(0, .ref (a 0)), (1, .long x1)] [] (wd_O O a B J)
  refine ww_aload_n (pc := 0) (i := 0) C 0 dX6_feed_0 rfl rfl ?_
  refine ww_get (pc := 1) C fl_X6_22 0 rfl rfl dX6_feed_1 ?_
  refine ww_lload_n (pc := 4) (i := 1) C 1 dX6_feed_4 rfl rfl ?_
  obtain ⟨y1, T2, e3, hf⟩ := oa_bind2 hf
  obtain ⟨B5, e6, hf⟩ := oa_letE hf
  refine ww_callV (pc := 5) (As := [.long x1]) (rest := []) (wd := wd_T O (fun i => a (i + 13)) (fun i => a (i + 15)) T2 (B 2)) (ws' := wd_O O a B5 J) (rv := (some (.int y1))) C hY_X4_append hV_X4_append lk_X6_69 (m_X4_append _ O (fun i => a (i + 13)) (fun i => a (i + 15)) (B 5) (B 2) x1 _ e3) [13, 14, 15, 16, 17, 18, 19, 20] 13 rfl rfl rfl rfl rfl (by subst e6; rfl) (fun _ h => h) ⟨rfl, rfl⟩ ⟨Nat.zero_le _, Nat.zero_le _⟩ ⟨Nat.le_of_ble_eq_true rfl, Nat.le_of_ble_eq_true rfl⟩ rfl (Nat.le_of_ble_eq_true rfl) rfl rfl dX6_feed_5 ?_
  obtain rfl := Option.some.inj hf
  exact ww_iret (pc := 8) C rfl dX6_feed_8
theorem dX6_fewest_0 : decode cX6_fewest 0 = .ok (.iload_n 1, 1) := by decide +kernel
theorem dX6_fewest_1 : decode cX6_fewest 1 = .ok (.iconst 0, 1) := by decide +kernel
theorem dX6_fewest_2 : decode cX6_fewest 2 = .ok (.iconst 1, 1) := by decide +kernel
theorem dX6_fewest_3 : decode cX6_fewest 3 = .ok (.invokestatic 96, 3) := by decide +kernel
theorem dX6_fewest_6 : decode cX6_fewest 6 = .ok (.ifCond .ne 5, 3) := by decide +kernel
theorem dX6_fewest_9 : decode cX6_fewest 9 = .ok (.iconst (-1), 1) := by decide +kernel
theorem dX6_fewest_10 : decode cX6_fewest 10 = .ok (.ireturn, 1) := by decide +kernel
theorem dX6_fewest_11 : decode cX6_fewest 11 = .ok (.bipush (-4), 2) := by decide +kernel
theorem dX6_fewest_13 : decode cX6_fewest 13 = .ok (.istore_n 2, 1) := by decide +kernel
theorem dX6_fewest_14 : decode cX6_fewest 14 = .ok (.bipush (-4), 2) := by decide +kernel
theorem dX6_fewest_16 : decode cX6_fewest 16 = .ok (.istore_n 3, 1) := by decide +kernel
theorem dX6_fewest_17 : decode cX6_fewest 17 = .ok (.aload_n 0, 1) := by decide +kernel
theorem dX6_fewest_18 : decode cX6_fewest 18 = .ok (.getfield 16, 3) := by decide +kernel
theorem dX6_fewest_21 : decode cX6_fewest 21 = .ok (.aload_n 0, 1) := by decide +kernel
theorem dX6_fewest_22 : decode cX6_fewest 22 = .ok (.getfield 10, 3) := by decide +kernel
theorem dX6_fewest_25 : decode cX6_fewest 25 = .ok (.invokevirtual 89, 3) := by decide +kernel
theorem dX6_fewest_28 : decode cX6_fewest 28 = .ok (.iconst 0, 1) := by decide +kernel
theorem dX6_fewest_29 : decode cX6_fewest 29 = .ok (.istore 4, 2) := by decide +kernel
theorem dX6_fewest_31 : decode cX6_fewest 31 = .ok (.iload 4, 2) := by decide +kernel
theorem dX6_fewest_33 : decode cX6_fewest 33 = .ok (.iconst 1, 1) := by decide +kernel
theorem dX6_fewest_34 : decode cX6_fewest 34 = .ok (.aload_n 0, 1) := by decide +kernel
theorem dX6_fewest_35 : decode cX6_fewest 35 = .ok (.getfield 10, 3) := by decide +kernel
theorem dX6_fewest_38 : decode cX6_fewest 38 = .ok (.getfield 210, 3) := by decide +kernel
theorem dX6_fewest_41 : decode cX6_fewest 41 = .ok (.ishl, 1) := by decide +kernel
theorem dX6_fewest_42 : decode cX6_fewest 42 = .ok (.if_icmp .ge 55, 3) := by decide +kernel
theorem dX6_fewest_45 : decode cX6_fewest 45 = .ok (.iload 4, 2) := by decide +kernel
theorem dX6_fewest_47 : decode cX6_fewest 47 = .ok (.invokestatic 213, 3) := by decide +kernel
theorem dX6_fewest_50 : decode cX6_fewest 50 = .ok (.istore 5, 2) := by decide +kernel
theorem dX6_fewest_52 : decode cX6_fewest 52 = .ok (.iload_n 2, 1) := by decide +kernel
theorem dX6_fewest_53 : decode cX6_fewest 53 = .ok (.bipush (-4), 2) := by decide +kernel
theorem dX6_fewest_55 : decode cX6_fewest 55 = .ok (.if_icmp .eq 9, 3) := by decide +kernel
theorem dX6_fewest_58 : decode cX6_fewest 58 = .ok (.iload 5, 2) := by decide +kernel
theorem dX6_fewest_60 : decode cX6_fewest 60 = .ok (.iload_n 2, 1) := by decide +kernel
theorem dX6_fewest_61 : decode cX6_fewest 61 = .ok (.if_icmp .ge 30, 3) := by decide +kernel
theorem dX6_fewest_64 : decode cX6_fewest 64 = .ok (.aload_n 0, 1) := by decide +kernel
theorem dX6_fewest_65 : decode cX6_fewest 65 = .ok (.getfield 16, 3) := by decide +kernel
theorem dX6_fewest_68 : decode cX6_fewest 68 = .ok (.iload 4, 2) := by decide +kernel
theorem dX6_fewest_70 : decode cX6_fewest 70 = .ok (.invokevirtual 218, 3) := by decide +kernel
theorem dX6_fewest_73 : decode cX6_fewest 73 = .ok (.aload_n 0, 1) := by decide +kernel
theorem dX6_fewest_74 : decode cX6_fewest 74 = .ok (.getfield 16, 3) := by decide +kernel
theorem dX6_fewest_77 : decode cX6_fewest 77 = .ok (.invokevirtual 192, 3) := by decide +kernel
theorem dX6_fewest_80 : decode cX6_fewest 80 = .ok (.lconst 0, 1) := by decide +kernel
theorem dX6_fewest_81 : decode cX6_fewest 81 = .ok (.lcmp, 1) := by decide +kernel
theorem dX6_fewest_82 : decode cX6_fewest 82 = .ok (.ifCond .ne 9, 3) := by decide +kernel
theorem dX6_fewest_85 : decode cX6_fewest 85 = .ok (.iload 5, 2) := by decide +kernel
theorem dX6_fewest_87 : decode cX6_fewest 87 = .ok (.istore_n 2, 1) := by decide +kernel
theorem dX6_fewest_88 : decode cX6_fewest 88 = .ok (.iload 4, 2) := by decide +kernel
theorem dX6_fewest_90 : decode cX6_fewest 90 = .ok (.istore_n 3, 1) := by decide +kernel
theorem dX6_fewest_91 : decode cX6_fewest 91 = .ok (.iinc 4 1, 3) := by decide +kernel
theorem dX6_fewest_94 : decode cX6_fewest 94 = .ok (.goto (-63), 3) := by decide +kernel
theorem dX6_fewest_97 : decode cX6_fewest 97 = .ok (.iload_n 1, 1) := by decide +kernel
theorem dX6_fewest_98 : decode cX6_fewest 98 = .ok (.ifCond .ne 7, 3) := by decide +kernel
theorem dX6_fewest_101 : decode cX6_fewest 101 = .ok (.iload_n 2, 1) := by decide +kernel
theorem dX6_fewest_102 : decode cX6_fewest 102 = .ok (.goto 4, 3) := by decide +kernel
theorem dX6_fewest_105 : decode cX6_fewest 105 = .ok (.iload_n 3, 1) := by decide +kernel
theorem dX6_fewest_106 : decode cX6_fewest 106 = .ok (.ireturn, 1) := by decide +kernel
abbrev rm_X6_fewest : Room := { frames := 6, cells := 0, slots := 0, locals := 136 }
theorem t_b_X6_fewest_64 {G : oa_G} {O : oa_O} {A : Nat → Prop} {a : Nat → Nat} {res : Int32 × oa_I3} (C : oa_C G cX6_fewest 6 RX6 (some .int) rm_X6_fewest O A) (J : oa_J2) (x1 : Int32)  (B : oa_I3) (x2 : Int32) (x3 : Int32) (x4 : Int32) (x5 : Int32) (k31 : oa_I3 → Int32 → Int32 → Int32 → Option (Int32 × oa_I3)) (hk31 : ∀ (b_B : oa_I3) (b_x2 : Int32) (b_x3 : Int32) (b_x4 : Int32), k31 b_B b_x2 b_x3 b_x4 = some res → ww G 6 O A (oa_Q G O A (0, 0) (some (.int res.1)) (fun W1 => W1 = wd_O O a res.2 J)) (0, 0) 31 [(0, .ref (a 0)), (1, .int x1), (2, .int b_x2), (3, .int b_x3), (4, .int b_x4)] [] (wd_O O a b_B J))  (hf : b_X6_fewest_64 J x1 k31 B x2 x3 x4 x5 = some res) : ww G 6 O A (oa_Q G O A (0, 0) (some (.int res.1)) (fun W1 => W1 = wd_O O a res.2 J)) (0, 0) 64 [(0, .ref (a 0)), (1, .int x1), (2, .int x2), (3, .int x3), (4, .int x4), (5, .int x5)] [] (wd_O O a B J) := by
  delta b_X6_fewest_64 at hf
  refine ww_aload_n (pc := 64) (i := 0) C 0 dX6_fewest_64 rfl rfl ?_
  refine ww_get (pc := 65) C fl_X6_16 0 rfl rfl dX6_fewest_65 ?_
  refine ww_iload (pc := 68) (i := 4) C 4 dX6_fewest_68 rfl ?_
  obtain ⟨V17, e18, hf⟩ := oa_bind hf
  obtain ⟨B20, e21, hf⟩ := oa_letE hf
  refine ww_callV (pc := 70) (As := [.int x4]) (rest := []) (wd := wd_V O (fun i => a (i + 7)) V17) (ws' := wd_O O a B20 J) (rv := none) C hY_X5_makeReady hV_X5_makeReady lk_X6_218 (m_X5_makeReady _ O (fun i => a (i + 7)) (B 1) x4 _ e18) [7, 8, 9, 10, 11, 12] 7 rfl rfl rfl rfl rfl (by subst e21; rfl) (fun _ h => h) ⟨rfl, rfl⟩ ⟨Nat.zero_le _, Nat.zero_le _⟩ ⟨Nat.le_of_ble_eq_true rfl, Nat.le_of_ble_eq_true rfl⟩ rfl (Nat.le_of_ble_eq_true rfl) rfl rfl dX6_fewest_70 ?_
  refine ww_aload_n (pc := 73) (i := 0) C 0 dX6_fewest_73 rfl rfl ?_
  refine ww_get (pc := 74) C fl_X6_16 0 rfl rfl dX6_fewest_74 ?_
  obtain ⟨y22, e23, hf⟩ := oa_bind hf
  refine ww_callV (pc := 77) (As := []) (rest := []) (wd := wd_V O (fun i => a (i + 7)) (B20 1)) (ws' := wd_O O a B20 J) (rv := (some (.long y22))) C hY_X5_openWrongs hV_X5_openWrongs lk_X6_192 (m_X5_openWrongs _ O (fun i => a (i + 7)) (B20 1) _ e23) [7, 8, 9, 10, 11, 12] 7 rfl rfl rfl rfl rfl (oa_putS _ _ _ rfl) (fun _ h => h) ⟨rfl, rfl⟩ ⟨Nat.zero_le _, Nat.zero_le _⟩ ⟨Nat.le_of_ble_eq_true rfl, Nat.le_of_ble_eq_true rfl⟩ rfl (Nat.le_of_ble_eq_true rfl) rfl rfl dX6_fewest_77 ?_
  refine ww_lconst (pc := 80) C dX6_fewest_80 kl_0 ?_
  refine ww_lcmp (pc := 81) C dX6_fewest_81 ?_
  refine ww_if_ne (pc := 82) (tgt := 91) C dX6_fewest_82 (by decide) (fun c25 => ?_) (fun c25 => ?_)
  · have hf := oa_ifn c25 hf
    refine ww_iinc (pc := 91) (v := (x4 + 1)) (L' := [(0, .ref (a 0)), (1, .int x1), (2, .int x2), (3, .int x3), (4, .int (x4 + 1)), (5, .int x5)]) C 4 [1, 2, 3, 4, 0, 5] dX6_fewest_91 rfl (ki_1 _) (Nat.le_of_ble_eq_true rfl) rfl ?_
    refine ww_goto (pc := 94) (tgt := 31) C dX6_fewest_94 (by decide) ?_
    refine ww_sub C [0, 1, 2, 3, 4] rfl ?_
    exact hk31 B20 x2 x3 (x4 + 1) hf
  · have hf := oa_ifp c25 hf
    refine ww_iload (pc := 85) (i := 5) C 5 dX6_fewest_85 rfl ?_
    refine ww_istore_n (pc := 87) (L' := [(0, .ref (a 0)), (1, .int x1), (2, .int x5), (3, .int x3), (4, .int x4), (5, .int x5)]) C [1, 2, 0, 3, 4, 5] dX6_fewest_87 rfl (Nat.le_of_ble_eq_true rfl) rfl ?_
    refine ww_iload (pc := 88) (i := 4) C 4 dX6_fewest_88 rfl ?_
    refine ww_istore_n (pc := 90) (L' := [(0, .ref (a 0)), (1, .int x1), (2, .int x5), (3, .int x4), (4, .int x4), (5, .int x5)]) C [1, 2, 3, 0, 4, 5] dX6_fewest_90 rfl (Nat.le_of_ble_eq_true rfl) rfl ?_
    refine ww_iinc (pc := 91) (v := (x4 + 1)) (L' := [(0, .ref (a 0)), (1, .int x1), (2, .int x5), (3, .int x4), (4, .int (x4 + 1)), (5, .int x5)]) C 4 [1, 2, 3, 4, 0, 5] dX6_fewest_91 rfl (ki_1 _) (Nat.le_of_ble_eq_true rfl) rfl ?_
    refine ww_goto (pc := 94) (tgt := 31) C dX6_fewest_94 (by decide) ?_
    refine ww_sub C [0, 1, 2, 3, 4] rfl ?_
    exact hk31 B20 x5 x4 (x4 + 1) hf
theorem t_b_X6_fewest_31 {G : oa_G} {O : oa_O} {A : Nat → Prop} {a : Nat → Nat} {res : Int32 × oa_I3} (C : oa_C G cX6_fewest 6 RX6 (some .int) rm_X6_fewest O A) (J : oa_J2) (x1 : Int32)    (k31 : oa_I3 → Int32 → Int32 → Int32 → Option (Int32 × oa_I3))  (hk31 : ∀ (b_B : oa_I3) (b_x2 : Int32) (b_x3 : Int32) (b_x4 : Int32), k31 b_B b_x2 b_x3 b_x4 = some res → ww G 6 O A (oa_Q G O A (0, 0) (some (.int res.1)) (fun W1 => W1 = wd_O O a res.2 J)) (0, 0) 31 [(0, .ref (a 0)), (1, .int x1), (2, .int b_x2), (3, .int b_x3), (4, .int b_x4)] [] (wd_O O a b_B J)) (B : oa_I3) (x2 : Int32) (x3 : Int32) (x4 : Int32) (hf : b_X6_fewest_31 J x1 k31 B x2 x3 x4 = some res) : ww G 6 O A (oa_Q G O A (0, 0) (some (.int res.1)) (fun W1 => W1 = wd_O O a res.2 J)) (0, 0) 31 [(0, .ref (a 0)), (1, .int x1), (2, .int x2), (3, .int x3), (4, .int x4)] [] (wd_O O a B J) := by
  delta b_X6_fewest_31 at hf
  refine ww_iload (pc := 31) (i := 4) C 4 dX6_fewest_31 rfl ?_
  refine ww_iconst (pc := 33) C dX6_fewest_33 kc_1 ?_
  refine ww_aload_n (pc := 34) (i := 0) C 0 dX6_fewest_34 rfl rfl ?_
  refine ww_get (pc := 35) C fl_X6_10 0 rfl rfl dX6_fewest_35 ?_
  refine ww_get (pc := 38) C fl_X6_210 1 rfl rfl dX6_fewest_38 ?_
  refine ww_ishl (pc := 41) C dX6_fewest_41 ?_
  refine ww_icmp_ge (pc := 42) (tgt := 97) C dX6_fewest_42 (by decide) (fun c10 => ?_) (fun c10 => ?_)
  · have hf := oa_ifp c10 hf
    refine ww_iload_n (pc := 97) (i := 1) C 1 dX6_fewest_97 rfl rfl ?_
    refine ww_if_ne (pc := 98) (tgt := 105) C dX6_fewest_98 (by decide) (fun c11 => ?_) (fun c11 => ?_)
    · have hf := oa_ifn c11 hf
      refine ww_iload_n (pc := 105) (i := 3) C 3 dX6_fewest_105 rfl rfl ?_
      obtain rfl := Option.some.inj hf
      exact ww_iret (pc := 106) C rfl dX6_fewest_106
    · have hf := oa_ifp c11 hf
      refine ww_iload_n (pc := 101) (i := 2) C 2 dX6_fewest_101 rfl rfl ?_
      refine ww_goto (pc := 102) (tgt := 106) C dX6_fewest_102 (by decide) ?_
      obtain rfl := Option.some.inj hf
      exact ww_iret (pc := 106) C rfl dX6_fewest_106
  · have hf := oa_ifn c10 hf
    refine ww_iload (pc := 45) (i := 4) C 4 dX6_fewest_45 rfl ?_
    obtain ⟨y12, e13, hf⟩ := oa_bind hf
    refine ww_callS (pc := 47) (As := [.int x4]) (rest := []) (wd := []) (ws' := wd_O O a B J) (rv := (some (.int y12))) C hY_J6_bitCount_0f7a4 hS_J6_bitCount_0f7a4 lk_X6_213 (m_J6_bitCount_0f7a4 _ O  x4 _ e13) [] rfl rfl rfl (oa_putS _ _ _ rfl) (fun _ h => h) ⟨rfl, rfl⟩ ⟨Nat.zero_le _, Nat.zero_le _⟩ ⟨Nat.le_of_ble_eq_true rfl, Nat.le_of_ble_eq_true rfl⟩ rfl (Nat.le_of_ble_eq_true rfl) rfl rfl dX6_fewest_47 ?_
    refine ww_istore (pc := 50) (L' := [(0, .ref (a 0)), (1, .int x1), (2, .int x2), (3, .int x3), (4, .int x4), (5, .int y12)]) C [1, 2, 3, 4, 5, 0] dX6_fewest_50 (Nat.le_of_ble_eq_true rfl) rfl ?_
    refine ww_iload_n (pc := 52) (i := 2) C 2 dX6_fewest_52 rfl rfl ?_
    refine ww_bipush (pc := 53) C dX6_fewest_53 kb_m4 ?_
    refine ww_icmp_eq (pc := 55) (tgt := 64) C dX6_fewest_55 (by decide) (fun c15 => ?_) (fun c15 => ?_)
    · have hf := oa_ifp c15 hf
      exact t_b_X6_fewest_64 C J x1 B x2 x3 x4 y12 k31 hk31 hf
    · have hf := oa_ifn c15 hf
      refine ww_iload (pc := 58) (i := 5) C 5 dX6_fewest_58 rfl ?_
      refine ww_iload_n (pc := 60) (i := 2) C 2 dX6_fewest_60 rfl rfl ?_
      refine ww_icmp_ge (pc := 61) (tgt := 91) C dX6_fewest_61 (by decide) (fun c16 => ?_) (fun c16 => ?_)
      · have hf := oa_ifp c16 hf
        refine ww_iinc (pc := 91) (v := (x4 + 1)) (L' := [(0, .ref (a 0)), (1, .int x1), (2, .int x2), (3, .int x3), (4, .int (x4 + 1)), (5, .int y12)]) C 4 [1, 2, 3, 4, 0, 5] dX6_fewest_91 rfl (ki_1 _) (Nat.le_of_ble_eq_true rfl) rfl ?_
        refine ww_goto (pc := 94) (tgt := 31) C dX6_fewest_94 (by decide) ?_
        refine ww_sub C [0, 1, 2, 3, 4] rfl ?_
        exact hk31 B x2 x3 (x4 + 1) hf
      · have hf := oa_ifn c16 hf
        exact t_b_X6_fewest_64 C J x1 B x2 x3 x4 y12 k31 hk31 hf
theorem t_l_X6_fewest_31 {G : oa_G} {O : oa_O} {A : Nat → Prop} {a : Nat → Nat} {res : Int32 × oa_I3} (C : oa_C G cX6_fewest 6 RX6 (some .int) rm_X6_fewest O A) (J : oa_J2) (x1 : Int32)    : ∀ (n : Nat) (B : oa_I3) (x2 : Int32) (x3 : Int32) (x4 : Int32), l_X6_fewest_31 J x1 n B x2 x3 x4 = some res → ww G 6 O A (oa_Q G O A (0, 0) (some (.int res.1)) (fun W1 => W1 = wd_O O a res.2 J)) (0, 0) 31 [(0, .ref (a 0)), (1, .int x1), (2, .int x2), (3, .int x3), (4, .int x4)] [] (wd_O O a B J) := by
  intro n
  induction n with
  | zero => intro B x2 x3 x4 hf; exact absurd (show (none : Option (Int32 × oa_I3)) = some res from hf) (fun h => nomatch h)
  | succ n ih =>
    intro B x2 x3 x4 hf
    exact t_b_X6_fewest_31 C J x1  (fun B x2 x3 x4 => l_X6_fewest_31 J x1 n B x2 x3 x4)  (fun B x2 x3 x4 h => ih B x2 x3 x4 h) B x2 x3 x4 hf
theorem m_X6_fewest (l : Launch) (O : oa_O) (a : Nat → Nat) (B : oa_I3) (J : oa_J2) (x1 : Int32) (res : Int32 × oa_I3) (hf : f_X6_fewest B J x1 = some res) : oa_M l yX6_fewest cX6_fewest 6 (some .int) rm_X6_fewest O [.ref (a 0), .int x1] (wd_O O a B J) (some (.int res.1)) (fun W1 => W1 = wd_O O a res.2 J) := by
  refine oa_Mof (by decide) (Nat.le_of_ble_eq_true rfl) (fun G A hl C => ?_)
  subst hl
  have C : oa_C G cX6_fewest 6 RX6 (some .int) rm_X6_fewest O A := C
  have hf : f_X6_fewest B J x1 = some res := hf
  delta f_X6_fewest at hf
  show ww G 6 O A (oa_Q G O A (0, 0) (some (.int res.1)) (fun W1 => W1 = wd_O O a res.2 J)) (0, 0) 0 [(0, .ref (a 0)), (1, .int x1)] [] (wd_O O a B J)
  refine ww_iload_n (pc := 0) (i := 1) C 1 dX6_fewest_0 rfl rfl ?_
  refine ww_iconst (pc := 1) C dX6_fewest_1 kc_0 ?_
  refine ww_iconst (pc := 2) C dX6_fewest_2 kc_1 ?_
  obtain ⟨y1, e2, hf⟩ := oa_bind hf
  refine ww_callS (pc := 3) (As := [.int x1, .int 0, .int 1]) (rest := []) (wd := []) (ws' := wd_O O a B J) (rv := (some (.int y1))) C hY_X6_within hS_X6_within lk_X6_96 (m_X6_within _ O  x1 0 1 _ e2) [] rfl rfl rfl (oa_putS _ _ _ rfl) (fun _ h => h) ⟨rfl, rfl⟩ ⟨Nat.zero_le _, Nat.zero_le _⟩ ⟨Nat.le_of_ble_eq_true rfl, Nat.le_of_ble_eq_true rfl⟩ rfl (Nat.le_of_ble_eq_true rfl) rfl rfl dX6_fewest_3 ?_
  refine ww_if_ne (pc := 6) (tgt := 11) C dX6_fewest_6 (by decide) (fun c4 => ?_) (fun c4 => ?_)
  · have hf := oa_ifn c4 hf
    refine ww_bipush (pc := 11) C dX6_fewest_11 kb_m4 ?_
    refine ww_istore_n (pc := 13) (L' := [(0, .ref (a 0)), (1, .int x1), (2, .int (-4))]) C [1, 2, 0] dX6_fewest_13 rfl (Nat.le_of_ble_eq_true rfl) rfl ?_
    refine ww_bipush (pc := 14) C dX6_fewest_14 kb_m4 ?_
    refine ww_istore_n (pc := 16) (L' := [(0, .ref (a 0)), (1, .int x1), (2, .int (-4)), (3, .int (-4))]) C [1, 2, 3, 0] dX6_fewest_16 rfl (Nat.le_of_ble_eq_true rfl) rfl ?_
    refine ww_aload_n (pc := 17) (i := 0) C 0 dX6_fewest_17 rfl rfl ?_
    refine ww_get (pc := 18) C fl_X6_16 0 rfl rfl dX6_fewest_18 ?_
    refine ww_aload_n (pc := 21) (i := 0) C 0 dX6_fewest_21 rfl rfl ?_
    refine ww_get (pc := 22) C fl_X6_10 0 rfl rfl dX6_fewest_22 ?_
    obtain ⟨V5, e6, hf⟩ := oa_bind hf
    obtain ⟨B8, e9, hf⟩ := oa_letE hf
    refine ww_callV (pc := 25) (As := [.ref (a 1)]) (rest := []) (wd := wd_VV O (fun i => a (i + 7)) (fun i => a (i + 1)) V5 (B 0)) (ws' := wd_O O a B8 J) (rv := none) C hY_X5_copyOf hV_X5_copyOf lk_X6_89 (m_X5_copyOf _ O (fun i => a (i + 7)) (fun i => a (i + 1)) (B 1) (B 0) _ e6) [7, 8, 9, 10, 11, 12, 1, 2, 3, 4, 5, 6] 7 rfl rfl rfl rfl rfl (by subst e9; rfl) (fun _ h => h) ⟨rfl, rfl⟩ ⟨Nat.zero_le _, Nat.zero_le _⟩ ⟨Nat.le_of_ble_eq_true rfl, Nat.le_of_ble_eq_true rfl⟩ rfl (Nat.le_of_ble_eq_true rfl) rfl rfl dX6_fewest_25 ?_
    refine ww_iconst (pc := 28) C dX6_fewest_28 kc_0 ?_
    refine ww_istore (pc := 29) (L' := [(0, .ref (a 0)), (1, .int x1), (2, .int (-4)), (3, .int (-4)), (4, .int 0)]) C [1, 2, 3, 4, 0] dX6_fewest_29 (Nat.le_of_ble_eq_true rfl) rfl ?_
    exact t_l_X6_fewest_31 C J x1    oa_fu B8 (-4) (-4) 0 hf
  · have hf := oa_ifp c4 hf
    refine ww_iconst (pc := 9) C dX6_fewest_9 kc_m1 ?_
    obtain rfl := Option.some.inj hf
    exact ww_iret (pc := 10) C rfl dX6_fewest_10
theorem dX6_go_0 : decode cX6_go 0 = .ok (.iload_n 1, 1) := by decide +kernel
theorem dX6_go_1 : decode cX6_go 1 = .ok (.iconst 1, 1) := by decide +kernel
theorem dX6_go_2 : decode cX6_go 2 = .ok (.bipush 99, 2) := by decide +kernel
theorem dX6_go_4 : decode cX6_go 4 = .ok (.invokestatic 96, 3) := by decide +kernel
theorem dX6_go_7 : decode cX6_go 7 = .ok (.ifCond .eq 14, 3) := by decide +kernel
theorem dX6_go_10 : decode cX6_go 10 = .ok (.aload_n 0, 1) := by decide +kernel
theorem dX6_go_11 : decode cX6_go 11 = .ok (.getfield 10, 3) := by decide +kernel
theorem dX6_go_14 : decode cX6_go 14 = .ok (.iload_n 1, 1) := by decide +kernel
theorem dX6_go_15 : decode cX6_go 15 = .ok (.invokevirtual 176, 3) := by decide +kernel
theorem dX6_go_18 : decode cX6_go 18 = .ok (.goto 4, 3) := by decide +kernel
theorem dX6_go_21 : decode cX6_go 21 = .ok (.iconst (-1), 1) := by decide +kernel
theorem dX6_go_22 : decode cX6_go 22 = .ok (.ireturn, 1) := by decide +kernel
abbrev rm_X6_go : Room := { frames := 7, cells := 0, slots := 0, locals := 160 }
theorem m_X6_go (l : Launch) (O : oa_O) (a : Nat → Nat) (B : oa_I3) (J : oa_J2) (x1 : Int32) (res : Int32 × oa_I3) (hf : f_X6_go B J x1 = some res) : oa_M l yX6_go cX6_go 2 (some .int) rm_X6_go O [.ref (a 0), .int x1] (wd_O O a B J) (some (.int res.1)) (fun W1 => W1 = wd_O O a res.2 J) := by
  refine oa_Mof (by decide) (Nat.le_of_ble_eq_true rfl) (fun G A hl C => ?_)
  subst hl
  have C : oa_C G cX6_go 2 RX6 (some .int) rm_X6_go O A := C
  have hf : f_X6_go B J x1 = some res := hf
  delta f_X6_go at hf
  show ww G 2 O A (oa_Q G O A (0, 0) (some (.int res.1)) (fun W1 => W1 = wd_O O a res.2 J)) (0, 0) 0 [(0, .ref (a 0)), (1, .int x1)] [] (wd_O O a B J)
  refine ww_iload_n (pc := 0) (i := 1) C 1 dX6_go_0 rfl rfl ?_
  refine ww_iconst (pc := 1) C dX6_go_1 kc_1 ?_
  refine ww_bipush (pc := 2) C dX6_go_2 kb_99 ?_
  obtain ⟨y1, e2, hf⟩ := oa_bind hf
  refine ww_callS (pc := 4) (As := [.int x1, .int 1, .int 99]) (rest := []) (wd := []) (ws' := wd_O O a B J) (rv := (some (.int y1))) C hY_X6_within hS_X6_within lk_X6_96 (m_X6_within _ O  x1 1 99 _ e2) [] rfl rfl rfl (oa_putS _ _ _ rfl) (fun _ h => h) ⟨rfl, rfl⟩ ⟨Nat.zero_le _, Nat.zero_le _⟩ ⟨Nat.le_of_ble_eq_true rfl, Nat.le_of_ble_eq_true rfl⟩ rfl (Nat.le_of_ble_eq_true rfl) rfl rfl dX6_go_4 ?_
  refine ww_if_eq (pc := 7) (tgt := 21) C dX6_go_7 (by decide) (fun c4 => ?_) (fun c4 => ?_)
  · have hf := oa_ifp c4 hf
    refine ww_iconst (pc := 21) C dX6_go_21 kc_m1 ?_
    obtain rfl := Option.some.inj hf
    exact ww_iret (pc := 22) C rfl dX6_go_22
  · have hf := oa_ifn c4 hf
    refine ww_aload_n (pc := 10) (i := 0) C 0 dX6_go_10 rfl rfl ?_
    refine ww_get (pc := 11) C fl_X6_10 0 rfl rfl dX6_go_11 ?_
    refine ww_iload_n (pc := 14) (i := 1) C 1 dX6_go_14 rfl rfl ?_
    obtain ⟨y5, V6, e7, hf⟩ := oa_bind2 hf
    obtain ⟨B9, e10, hf⟩ := oa_letE hf
    refine ww_callV (pc := 15) (As := [.int x1]) (rest := []) (wd := wd_V O (fun i => a (i + 1)) V6) (ws' := wd_O O a B9 J) (rv := (some (.int y5))) C hY_X5_passWeeks hV_X5_passWeeks lk_X6_176 (m_X5_passWeeks _ O (fun i => a (i + 1)) (B 0) x1 _ e7) [1, 2, 3, 4, 5, 6] 1 rfl rfl rfl rfl rfl (by subst e10; rfl) (fun _ h => h) ⟨rfl, rfl⟩ ⟨Nat.zero_le _, Nat.zero_le _⟩ ⟨Nat.le_of_ble_eq_true rfl, Nat.le_of_ble_eq_true rfl⟩ rfl (Nat.le_of_ble_eq_true rfl) rfl rfl dX6_go_15 ?_
    refine ww_goto (pc := 18) (tgt := 22) C dX6_go_18 (by decide) ?_
    obtain rfl := Option.some.inj hf
    exact ww_iret (pc := 22) C rfl dX6_go_22
theorem dX6_got_0 : decode cX6_got 0 = .ok (.aload_n 0, 1) := by decide +kernel
theorem dX6_got_1 : decode cX6_got 1 = .ok (.getfield 10, 3) := by decide +kernel
theorem dX6_got_4 : decode cX6_got 4 = .ok (.iload_n 1, 1) := by decide +kernel
theorem dX6_got_5 : decode cX6_got 5 = .ok (.invokevirtual 104, 3) := by decide +kernel
theorem dX6_got_8 : decode cX6_got 8 = .ok (.ifCond .eq 15, 3) := by decide +kernel
theorem dX6_got_11 : decode cX6_got 11 = .ok (.aload_n 0, 1) := by decide +kernel
theorem dX6_got_12 : decode cX6_got 12 = .ok (.getfield 10, 3) := by decide +kernel
theorem dX6_got_15 : decode cX6_got 15 = .ok (.getfield 141, 3) := by decide +kernel
theorem dX6_got_18 : decode cX6_got 18 = .ok (.iload_n 1, 1) := by decide +kernel
theorem dX6_got_19 : decode cX6_got 19 = .ok (.iaload, 1) := by decide +kernel
theorem dX6_got_20 : decode cX6_got 20 = .ok (.goto 5, 3) := by decide +kernel
theorem dX6_got_23 : decode cX6_got 23 = .ok (.ldc 144, 2) := by decide +kernel
theorem dX6_got_25 : decode cX6_got 25 = .ok (.ireturn, 1) := by decide +kernel
abbrev rm_X6_got : Room := { frames := 2, cells := 0, slots := 0, locals := 43 }
theorem m_X6_got (l : Launch) (O : oa_O) (a : Nat → Nat) (B : oa_I3) (J : oa_J2) (x1 : Int32) (res : Int32) (hf : f_X6_got B J x1 = some res) : oa_M l yX6_got cX6_got 2 (some .int) rm_X6_got O [.ref (a 0), .int x1] (wd_O O a B J) (some (.int res)) (fun W1 => W1 = wd_O O a B J) := by
  refine oa_Mof (by decide) (Nat.le_of_ble_eq_true rfl) (fun G A hl C => ?_)
  subst hl
  have C : oa_C G cX6_got 2 RX6 (some .int) rm_X6_got O A := C
  have hf : f_X6_got B J x1 = some res := hf
  delta f_X6_got at hf
  show ww G 2 O A (oa_Q G O A (0, 0) (some (.int res)) (fun W1 => W1 = wd_O O a B J)) (0, 0) 0 [(0, .ref (a 0)), (1, .int x1)] [] (wd_O O a B J)
  refine ww_aload_n (pc := 0) (i := 0) C 0 dX6_got_0 rfl rfl ?_
  refine ww_get (pc := 1) C fl_X6_10 0 rfl rfl dX6_got_1 ?_
  refine ww_iload_n (pc := 4) (i := 1) C 1 dX6_got_4 rfl rfl ?_
  obtain ⟨y1, e2, hf⟩ := oa_bind hf
  refine ww_callV (pc := 5) (As := [.int x1]) (rest := []) (wd := wd_V O (fun i => a (i + 1)) (B 0)) (ws' := wd_O O a B J) (rv := (some (.int y1))) C hY_X5_has hV_X5_has lk_X6_104 (m_X5_has _ O (fun i => a (i + 1)) (B 0) x1 _ e2) [1, 2, 3, 4, 5, 6] 1 rfl rfl rfl rfl rfl (oa_putS _ _ _ rfl) (fun _ h => h) ⟨rfl, rfl⟩ ⟨Nat.zero_le _, Nat.zero_le _⟩ ⟨Nat.le_of_ble_eq_true rfl, Nat.le_of_ble_eq_true rfl⟩ rfl (Nat.le_of_ble_eq_true rfl) rfl rfl dX6_got_5 ?_
  refine ww_if_eq (pc := 8) (tgt := 23) C dX6_got_8 (by decide) (fun c4 => ?_) (fun c4 => ?_)
  · have hf := oa_ifp c4 hf
    refine ww_ldc (pc := 23) C cw_X6_144 dX6_got_23 ?_
    obtain rfl := Option.some.inj hf
    exact ww_iret (pc := 25) C rfl dX6_got_25
  · have hf := oa_ifn c4 hf
    refine ww_aload_n (pc := 11) (i := 0) C 0 dX6_got_11 rfl rfl ?_
    refine ww_get (pc := 12) C fl_X6_10 0 rfl rfl dX6_got_12 ?_
    refine ww_get (pc := 15) C fl_X6_141 1 rfl rfl dX6_got_15 ?_
    refine ww_iload_n (pc := 18) (i := 1) C 1 dX6_got_18 rfl rfl ?_
    obtain ⟨y5, e6, hf⟩ := oa_bind hf
    refine ww_iald (pc := 19) C 6 rfl e6 dX6_got_19 ?_
    refine ww_goto (pc := 20) (tgt := 25) C dX6_got_20 (by decide) ?_
    obtain rfl := Option.some.inj hf
    exact ww_iret (pc := 25) C rfl dX6_got_25
theorem dX6_hiredCost_0 : decode cX6_hiredCost 0 = .ok (.iload_n 1, 1) := by decide +kernel
theorem dX6_hiredCost_1 : decode cX6_hiredCost 1 = .ok (.bipush 20, 2) := by decide +kernel
theorem dX6_hiredCost_3 : decode cX6_hiredCost 3 = .ok (.iconst 4, 1) := by decide +kernel
theorem dX6_hiredCost_4 : decode cX6_hiredCost 4 = .ok (.aload_n 0, 1) := by decide +kernel
theorem dX6_hiredCost_5 : decode cX6_hiredCost 5 = .ok (.getfield 10, 3) := by decide +kernel
theorem dX6_hiredCost_8 : decode cX6_hiredCost 8 = .ok (.getfield 100, 3) := by decide +kernel
theorem dX6_hiredCost_11 : decode cX6_hiredCost 11 = .ok (.iconst 1, 1) := by decide +kernel
theorem dX6_hiredCost_12 : decode cX6_hiredCost 12 = .ok (.iaload, 1) := by decide +kernel
theorem dX6_hiredCost_13 : decode cX6_hiredCost 13 = .ok (.invokestatic 301, 3) := by decide +kernel
theorem dX6_hiredCost_16 : decode cX6_hiredCost 16 = .ok (.ireturn, 1) := by decide +kernel
abbrev rm_X6_hiredCost : Room := { frames := 2, cells := 0, slots := 0, locals := 44 }
theorem m_X6_hiredCost (l : Launch) (O : oa_O) (a : Nat → Nat) (B : oa_I3) (J : oa_J2) (x1 : Int32) (res : Int32) (hf : f_X6_hiredCost B J x1 = some res) : oa_M l yX6_hiredCost cX6_hiredCost 2 (some .int) rm_X6_hiredCost O [.ref (a 0), .int x1] (wd_O O a B J) (some (.int res)) (fun W1 => W1 = wd_O O a B J) := by
  refine oa_Mof (by decide) (Nat.le_of_ble_eq_true rfl) (fun G A hl C => ?_)
  subst hl
  have C : oa_C G cX6_hiredCost 2 RX6 (some .int) rm_X6_hiredCost O A := C
  have hf : f_X6_hiredCost B J x1 = some res := hf
  delta f_X6_hiredCost at hf
  show ww G 2 O A (oa_Q G O A (0, 0) (some (.int res)) (fun W1 => W1 = wd_O O a B J)) (0, 0) 0 [(0, .ref (a 0)), (1, .int x1)] [] (wd_O O a B J)
  refine ww_iload_n (pc := 0) (i := 1) C 1 dX6_hiredCost_0 rfl rfl ?_
  refine ww_bipush (pc := 1) C dX6_hiredCost_1 kb_20 ?_
  refine ww_iconst (pc := 3) C dX6_hiredCost_3 kc_4 ?_
  refine ww_aload_n (pc := 4) (i := 0) C 0 dX6_hiredCost_4 rfl rfl ?_
  refine ww_get (pc := 5) C fl_X6_10 0 rfl rfl dX6_hiredCost_5 ?_
  refine ww_get (pc := 8) C fl_X6_100 1 rfl rfl dX6_hiredCost_8 ?_
  refine ww_iconst (pc := 11) C dX6_hiredCost_11 kc_1 ?_
  obtain ⟨y1, e2, hf⟩ := oa_bind hf
  refine ww_iald (pc := 12) C 2 rfl e2 dX6_hiredCost_12 ?_
  obtain ⟨y3, e4, hf⟩ := oa_bind hf
  refine ww_callS (pc := 13) (As := [.int x1, .int 20, .int 4, .int y1]) (rest := []) (wd := []) (ws' := wd_O O a B J) (rv := (some (.int y3))) C hY_X6_costFor hS_X6_costFor lk_X6_301 (m_X6_costFor _ O  x1 20 4 y1 _ e4) [] rfl rfl rfl (oa_putS _ _ _ rfl) (fun _ h => h) ⟨rfl, rfl⟩ ⟨Nat.zero_le _, Nat.zero_le _⟩ ⟨Nat.le_of_ble_eq_true rfl, Nat.le_of_ble_eq_true rfl⟩ rfl (Nat.le_of_ble_eq_true rfl) rfl rfl dX6_hiredCost_13 ?_
  obtain rfl := Option.some.inj hf
  exact ww_iret (pc := 16) C rfl dX6_hiredCost_16
theorem dX6_hire_0 : decode cX6_hire 0 = .ok (.iload_n 1, 1) := by decide +kernel
theorem dX6_hire_1 : decode cX6_hire 1 = .ok (.iconst 0, 1) := by decide +kernel
theorem dX6_hire_2 : decode cX6_hire 2 = .ok (.bipush 99, 2) := by decide +kernel
theorem dX6_hire_4 : decode cX6_hire 4 = .ok (.invokestatic 96, 3) := by decide +kernel
theorem dX6_hire_7 : decode cX6_hire 7 = .ok (.ifCond .eq 12, 3) := by decide +kernel
theorem dX6_hire_10 : decode cX6_hire 10 = .ok (.iload_n 2, 1) := by decide +kernel
theorem dX6_hire_11 : decode cX6_hire 11 = .ok (.iconst 0, 1) := by decide +kernel
theorem dX6_hire_12 : decode cX6_hire 12 = .ok (.iconst 1, 1) := by decide +kernel
theorem dX6_hire_13 : decode cX6_hire 13 = .ok (.invokestatic 96, 3) := by decide +kernel
theorem dX6_hire_16 : decode cX6_hire 16 = .ok (.ifCond .ne 5, 3) := by decide +kernel
theorem dX6_hire_19 : decode cX6_hire 19 = .ok (.iconst (-1), 1) := by decide +kernel
theorem dX6_hire_20 : decode cX6_hire 20 = .ok (.ireturn, 1) := by decide +kernel
theorem dX6_hire_21 : decode cX6_hire 21 = .ok (.aload_n 0, 1) := by decide +kernel
theorem dX6_hire_22 : decode cX6_hire 22 = .ok (.iload_n 1, 1) := by decide +kernel
theorem dX6_hire_23 : decode cX6_hire 23 = .ok (.invokevirtual 229, 3) := by decide +kernel
theorem dX6_hire_26 : decode cX6_hire 26 = .ok (.istore_n 3, 1) := by decide +kernel
theorem dX6_hire_27 : decode cX6_hire 27 = .ok (.aload_n 0, 1) := by decide +kernel
theorem dX6_hire_28 : decode cX6_hire 28 = .ok (.getfield 10, 3) := by decide +kernel
theorem dX6_hire_31 : decode cX6_hire 31 = .ok (.invokevirtual 192, 3) := by decide +kernel
theorem dX6_hire_34 : decode cX6_hire 34 = .ok (.invokestatic 225, 3) := by decide +kernel
theorem dX6_hire_37 : decode cX6_hire 37 = .ok (.istore 4, 2) := by decide +kernel
theorem dX6_hire_39 : decode cX6_hire 39 = .ok (.bipush (-4), 2) := by decide +kernel
theorem dX6_hire_41 : decode cX6_hire 41 = .ok (.istore 5, 2) := by decide +kernel
theorem dX6_hire_43 : decode cX6_hire 43 = .ok (.iconst 0, 1) := by decide +kernel
theorem dX6_hire_44 : decode cX6_hire 44 = .ok (.istore 6, 2) := by decide +kernel
theorem dX6_hire_46 : decode cX6_hire 46 = .ok (.iconst 0, 1) := by decide +kernel
theorem dX6_hire_47 : decode cX6_hire 47 = .ok (.istore 7, 2) := by decide +kernel
theorem dX6_hire_49 : decode cX6_hire 49 = .ok (.iload 7, 2) := by decide +kernel
theorem dX6_hire_51 : decode cX6_hire 51 = .ok (.aload_n 0, 1) := by decide +kernel
theorem dX6_hire_52 : decode cX6_hire 52 = .ok (.getfield 10, 3) := by decide +kernel
theorem dX6_hire_55 : decode cX6_hire 55 = .ok (.getfield 210, 3) := by decide +kernel
theorem dX6_hire_58 : decode cX6_hire 58 = .ok (.if_icmp .ge 42, 3) := by decide +kernel
theorem dX6_hire_61 : decode cX6_hire 61 = .ok (.iload 4, 2) := by decide +kernel
theorem dX6_hire_63 : decode cX6_hire 63 = .ok (.aload_n 0, 1) := by decide +kernel
theorem dX6_hire_64 : decode cX6_hire 64 = .ok (.getfield 10, 3) := by decide +kernel
theorem dX6_hire_67 : decode cX6_hire 67 = .ok (.iload 7, 2) := by decide +kernel
theorem dX6_hire_69 : decode cX6_hire 69 = .ok (.iload_n 3, 1) := by decide +kernel
theorem dX6_hire_70 : decode cX6_hire 70 = .ok (.invokevirtual 232, 3) := by decide +kernel
theorem dX6_hire_73 : decode cX6_hire 73 = .ok (.invokestatic 225, 3) := by decide +kernel
theorem dX6_hire_76 : decode cX6_hire 76 = .ok (.isub, 1) := by decide +kernel
theorem dX6_hire_77 : decode cX6_hire 77 = .ok (.istore 8, 2) := by decide +kernel
theorem dX6_hire_79 : decode cX6_hire 79 = .ok (.iload 8, 2) := by decide +kernel
theorem dX6_hire_81 : decode cX6_hire 81 = .ok (.iload 6, 2) := by decide +kernel
theorem dX6_hire_83 : decode cX6_hire 83 = .ok (.if_icmp .le 11, 3) := by decide +kernel
theorem dX6_hire_86 : decode cX6_hire 86 = .ok (.iload 8, 2) := by decide +kernel
theorem dX6_hire_88 : decode cX6_hire 88 = .ok (.istore 6, 2) := by decide +kernel
theorem dX6_hire_90 : decode cX6_hire 90 = .ok (.iload 7, 2) := by decide +kernel
theorem dX6_hire_92 : decode cX6_hire 92 = .ok (.istore 5, 2) := by decide +kernel
theorem dX6_hire_94 : decode cX6_hire 94 = .ok (.iinc 7 1, 3) := by decide +kernel
theorem dX6_hire_97 : decode cX6_hire 97 = .ok (.goto (-48), 3) := by decide +kernel
theorem dX6_hire_100 : decode cX6_hire 100 = .ok (.iload_n 2, 1) := by decide +kernel
theorem dX6_hire_101 : decode cX6_hire 101 = .ok (.ifCond .eq 10, 3) := by decide +kernel
theorem dX6_hire_104 : decode cX6_hire 104 = .ok (.iload 5, 2) := by decide +kernel
theorem dX6_hire_106 : decode cX6_hire 106 = .ok (.bipush (-4), 2) := by decide +kernel
theorem dX6_hire_108 : decode cX6_hire 108 = .ok (.if_icmp .ne 8, 3) := by decide +kernel
theorem dX6_hire_111 : decode cX6_hire 111 = .ok (.iload 5, 2) := by decide +kernel
theorem dX6_hire_113 : decode cX6_hire 113 = .ok (.goto 5, 3) := by decide +kernel
theorem dX6_hire_116 : decode cX6_hire 116 = .ok (.iload 6, 2) := by decide +kernel
theorem dX6_hire_118 : decode cX6_hire 118 = .ok (.ireturn, 1) := by decide +kernel
abbrev rm_X6_hire : Room := { frames := 6, cells := 0, slots := 0, locals := 136 }
theorem t_b_X6_hire_49 {G : oa_G} {O : oa_O} {A : Nat → Prop} {a : Nat → Nat} {res : Int32} (C : oa_C G cX6_hire 9 RX6 (some .int) rm_X6_hire O A) (B : oa_I3) (J : oa_J2) (x1 : Int32) (x2 : Int32) (x3 : Int32) (x4 : Int32)   (k49 : Int32 → Int32 → Int32 → Option (Int32))  (hk49 : ∀ (b_x5 : Int32) (b_x6 : Int32) (b_x7 : Int32), k49 b_x5 b_x6 b_x7 = some res → ww G 9 O A (oa_Q G O A (0, 0) (some (.int res)) (fun W1 => W1 = wd_O O a B J)) (0, 0) 49 [(0, .ref (a 0)), (2, .int x2), (3, .int x3), (4, .int x4), (5, .int b_x5), (6, .int b_x6), (7, .int b_x7)] [] (wd_O O a B J)) (x5 : Int32) (x6 : Int32) (x7 : Int32) (hf : b_X6_hire_49 B J x1 x2 x3 x4 k49 x5 x6 x7 = some res) : ww G 9 O A (oa_Q G O A (0, 0) (some (.int res)) (fun W1 => W1 = wd_O O a B J)) (0, 0) 49 [(0, .ref (a 0)), (2, .int x2), (3, .int x3), (4, .int x4), (5, .int x5), (6, .int x6), (7, .int x7)] [] (wd_O O a B J) := by
  delta b_X6_hire_49 at hf
  refine ww_iload (pc := 49) (i := 7) C 6 dX6_hire_49 rfl ?_
  refine ww_aload_n (pc := 51) (i := 0) C 0 dX6_hire_51 rfl rfl ?_
  refine ww_get (pc := 52) C fl_X6_10 0 rfl rfl dX6_hire_52 ?_
  refine ww_get (pc := 55) C fl_X6_210 1 rfl rfl dX6_hire_55 ?_
  refine ww_icmp_ge (pc := 58) (tgt := 100) C dX6_hire_58 (by decide) (fun c18 => ?_) (fun c18 => ?_)
  · have hf := oa_ifp c18 hf
    refine ww_iload_n (pc := 100) (i := 2) C 1 dX6_hire_100 rfl rfl ?_
    refine ww_if_eq (pc := 101) (tgt := 111) C dX6_hire_101 (by decide) (fun c19 => ?_) (fun c19 => ?_)
    · have hf := oa_ifp c19 hf
      refine ww_iload (pc := 111) (i := 5) C 4 dX6_hire_111 rfl ?_
      refine ww_goto (pc := 113) (tgt := 118) C dX6_hire_113 (by decide) ?_
      obtain rfl := Option.some.inj hf
      exact ww_iret (pc := 118) C rfl dX6_hire_118
    · have hf := oa_ifn c19 hf
      refine ww_iload (pc := 104) (i := 5) C 4 dX6_hire_104 rfl ?_
      refine ww_bipush (pc := 106) C dX6_hire_106 kb_m4 ?_
      refine ww_icmp_ne (pc := 108) (tgt := 116) C dX6_hire_108 (by decide) (fun c20 => ?_) (fun c20 => ?_)
      · have hf := oa_ifn c20 hf
        refine ww_iload (pc := 116) (i := 6) C 5 dX6_hire_116 rfl ?_
        obtain rfl := Option.some.inj hf
        exact ww_iret (pc := 118) C rfl dX6_hire_118
      · have hf := oa_ifp c20 hf
        refine ww_iload (pc := 111) (i := 5) C 4 dX6_hire_111 rfl ?_
        refine ww_goto (pc := 113) (tgt := 118) C dX6_hire_113 (by decide) ?_
        obtain rfl := Option.some.inj hf
        exact ww_iret (pc := 118) C rfl dX6_hire_118
  · have hf := oa_ifn c18 hf
    refine ww_iload (pc := 61) (i := 4) C 3 dX6_hire_61 rfl ?_
    refine ww_aload_n (pc := 63) (i := 0) C 0 dX6_hire_63 rfl rfl ?_
    refine ww_get (pc := 64) C fl_X6_10 0 rfl rfl dX6_hire_64 ?_
    refine ww_iload (pc := 67) (i := 7) C 6 dX6_hire_67 rfl ?_
    refine ww_iload_n (pc := 69) (i := 3) C 2 dX6_hire_69 rfl rfl ?_
    obtain ⟨y21, e22, hf⟩ := oa_bind hf
    refine ww_callV (pc := 70) (As := [.int x7, .int x3]) (rest := [.int x4]) (wd := wd_V O (fun i => a (i + 1)) (B 0)) (ws' := wd_O O a B J) (rv := (some (.long y21))) C hY_X5_openWrongsGuarded hV_X5_openWrongsGuarded lk_X6_232 (m_X5_openWrongsGuarded _ O (fun i => a (i + 1)) (B 0) x7 x3 _ e22) [1, 2, 3, 4, 5, 6] 1 rfl rfl rfl rfl rfl (oa_putS _ _ _ rfl) (fun _ h => h) ⟨rfl, rfl⟩ ⟨Nat.zero_le _, Nat.zero_le _⟩ ⟨Nat.le_of_ble_eq_true rfl, Nat.le_of_ble_eq_true rfl⟩ rfl (Nat.le_of_ble_eq_true rfl) rfl rfl dX6_hire_70 ?_
    obtain ⟨y24, e25, hf⟩ := oa_bind hf
    refine ww_callS (pc := 73) (As := [.long y21]) (rest := [.int x4]) (wd := []) (ws' := wd_O O a B J) (rv := (some (.int y24))) C hY_J13_bitCount_95d88 hS_J13_bitCount_95d88 lk_X6_225 (m_J13_bitCount_95d88 _ O  y21 _ e25) [] rfl rfl rfl (oa_putS _ _ _ rfl) (fun _ h => h) ⟨rfl, rfl⟩ ⟨Nat.zero_le _, Nat.zero_le _⟩ ⟨Nat.le_of_ble_eq_true rfl, Nat.le_of_ble_eq_true rfl⟩ rfl (Nat.le_of_ble_eq_true rfl) rfl rfl dX6_hire_73 ?_
    refine ww_isub (pc := 76) C dX6_hire_76 ?_
    obtain ⟨y27, e28, hf⟩ := oa_letE hf
    refine ww_topi C e28 ?_
    refine ww_istore (pc := 77) (L' := [(0, .ref (a 0)), (2, .int x2), (3, .int x3), (4, .int x4), (5, .int x5), (6, .int x6), (7, .int x7), (8, .int y27)]) C [1, 2, 3, 4, 5, 6, 7, 0] dX6_hire_77 (Nat.le_of_ble_eq_true rfl) rfl ?_
    refine ww_iload (pc := 79) (i := 8) C 7 dX6_hire_79 rfl ?_
    refine ww_iload (pc := 81) (i := 6) C 5 dX6_hire_81 rfl ?_
    refine ww_icmp_le (pc := 83) (tgt := 94) C dX6_hire_83 (by decide) (fun c29 => ?_) (fun c29 => ?_)
    · have hf := oa_ifp c29 hf
      refine ww_iinc (pc := 94) (v := (x7 + 1)) (L' := [(0, .ref (a 0)), (2, .int x2), (3, .int x3), (4, .int x4), (5, .int x5), (6, .int x6), (7, .int (x7 + 1)), (8, .int y27)]) C 6 [1, 2, 3, 4, 5, 6, 0, 7] dX6_hire_94 rfl (ki_1 _) (Nat.le_of_ble_eq_true rfl) rfl ?_
      refine ww_goto (pc := 97) (tgt := 49) C dX6_hire_97 (by decide) ?_
      refine ww_sub C [0, 1, 2, 3, 4, 5, 6] rfl ?_
      exact hk49 x5 x6 (x7 + 1) hf
    · have hf := oa_ifn c29 hf
      refine ww_iload (pc := 86) (i := 8) C 7 dX6_hire_86 rfl ?_
      refine ww_istore (pc := 88) (L' := [(0, .ref (a 0)), (2, .int x2), (3, .int x3), (4, .int x4), (5, .int x5), (6, .int y27), (7, .int x7), (8, .int y27)]) C [1, 2, 3, 4, 5, 0, 6, 7] dX6_hire_88 (Nat.le_of_ble_eq_true rfl) rfl ?_
      refine ww_iload (pc := 90) (i := 7) C 6 dX6_hire_90 rfl ?_
      refine ww_istore (pc := 92) (L' := [(0, .ref (a 0)), (2, .int x2), (3, .int x3), (4, .int x4), (5, .int x7), (6, .int y27), (7, .int x7), (8, .int y27)]) C [1, 2, 3, 4, 0, 5, 6, 7] dX6_hire_92 (Nat.le_of_ble_eq_true rfl) rfl ?_
      refine ww_iinc (pc := 94) (v := (x7 + 1)) (L' := [(0, .ref (a 0)), (2, .int x2), (3, .int x3), (4, .int x4), (5, .int x7), (6, .int y27), (7, .int (x7 + 1)), (8, .int y27)]) C 6 [1, 2, 3, 4, 5, 6, 0, 7] dX6_hire_94 rfl (ki_1 _) (Nat.le_of_ble_eq_true rfl) rfl ?_
      refine ww_goto (pc := 97) (tgt := 49) C dX6_hire_97 (by decide) ?_
      refine ww_sub C [0, 1, 2, 3, 4, 5, 6] rfl ?_
      exact hk49 x7 y27 (x7 + 1) hf
theorem t_l_X6_hire_49 {G : oa_G} {O : oa_O} {A : Nat → Prop} {a : Nat → Nat} {res : Int32} (C : oa_C G cX6_hire 9 RX6 (some .int) rm_X6_hire O A) (B : oa_I3) (J : oa_J2) (x1 : Int32) (x2 : Int32) (x3 : Int32) (x4 : Int32)   : ∀ (n : Nat) (x5 : Int32) (x6 : Int32) (x7 : Int32), l_X6_hire_49 B J x1 x2 x3 x4 n x5 x6 x7 = some res → ww G 9 O A (oa_Q G O A (0, 0) (some (.int res)) (fun W1 => W1 = wd_O O a B J)) (0, 0) 49 [(0, .ref (a 0)), (2, .int x2), (3, .int x3), (4, .int x4), (5, .int x5), (6, .int x6), (7, .int x7)] [] (wd_O O a B J) := by
  intro n
  induction n with
  | zero => intro x5 x6 x7 hf; exact absurd (show (none : Option (Int32)) = some res from hf) (fun h => nomatch h)
  | succ n ih =>
    intro x5 x6 x7 hf
    exact t_b_X6_hire_49 C B J x1 x2 x3 x4 (fun x5 x6 x7 => l_X6_hire_49 B J x1 x2 x3 x4 n x5 x6 x7)  (fun x5 x6 x7 h => ih x5 x6 x7 h) x5 x6 x7 hf
theorem m_X6_hire (l : Launch) (O : oa_O) (a : Nat → Nat) (B : oa_I3) (J : oa_J2) (x1 : Int32) (x2 : Int32) (res : Int32) (hf : f_X6_hire B J x1 x2 = some res) : oa_M l yX6_hire cX6_hire 9 (some .int) rm_X6_hire O [.ref (a 0), .int x1, .int x2] (wd_O O a B J) (some (.int res)) (fun W1 => W1 = wd_O O a B J) := by
  refine oa_Mof (by decide) (Nat.le_of_ble_eq_true rfl) (fun G A hl C => ?_)
  subst hl
  have C : oa_C G cX6_hire 9 RX6 (some .int) rm_X6_hire O A := C
  have hf : f_X6_hire B J x1 x2 = some res := hf
  delta f_X6_hire at hf
  show ww G 9 O A (oa_Q G O A (0, 0) (some (.int res)) (fun W1 => W1 = wd_O O a B J)) (0, 0) 0 [(0, .ref (a 0)), (1, .int x1), (2, .int x2)] [] (wd_O O a B J)
  refine ww_iload_n (pc := 0) (i := 1) C 1 dX6_hire_0 rfl rfl ?_
  refine ww_iconst (pc := 1) C dX6_hire_1 kc_0 ?_
  refine ww_bipush (pc := 2) C dX6_hire_2 kb_99 ?_
  obtain ⟨y1, e2, hf⟩ := oa_bind hf
  refine ww_callS (pc := 4) (As := [.int x1, .int 0, .int 99]) (rest := []) (wd := []) (ws' := wd_O O a B J) (rv := (some (.int y1))) C hY_X6_within hS_X6_within lk_X6_96 (m_X6_within _ O  x1 0 99 _ e2) [] rfl rfl rfl (oa_putS _ _ _ rfl) (fun _ h => h) ⟨rfl, rfl⟩ ⟨Nat.zero_le _, Nat.zero_le _⟩ ⟨Nat.le_of_ble_eq_true rfl, Nat.le_of_ble_eq_true rfl⟩ rfl (Nat.le_of_ble_eq_true rfl) rfl rfl dX6_hire_4 ?_
  refine ww_if_eq (pc := 7) (tgt := 19) C dX6_hire_7 (by decide) (fun c4 => ?_) (fun c4 => ?_)
  · have hf := oa_ifp c4 hf
    refine ww_iconst (pc := 19) C dX6_hire_19 kc_m1 ?_
    obtain rfl := Option.some.inj hf
    exact ww_iret (pc := 20) C rfl dX6_hire_20
  · have hf := oa_ifn c4 hf
    refine ww_iload_n (pc := 10) (i := 2) C 2 dX6_hire_10 rfl rfl ?_
    refine ww_iconst (pc := 11) C dX6_hire_11 kc_0 ?_
    refine ww_iconst (pc := 12) C dX6_hire_12 kc_1 ?_
    obtain ⟨y5, e6, hf⟩ := oa_bind hf
    refine ww_callS (pc := 13) (As := [.int x2, .int 0, .int 1]) (rest := []) (wd := []) (ws' := wd_O O a B J) (rv := (some (.int y5))) C hY_X6_within hS_X6_within lk_X6_96 (m_X6_within _ O  x2 0 1 _ e6) [] rfl rfl rfl (oa_putS _ _ _ rfl) (fun _ h => h) ⟨rfl, rfl⟩ ⟨Nat.zero_le _, Nat.zero_le _⟩ ⟨Nat.le_of_ble_eq_true rfl, Nat.le_of_ble_eq_true rfl⟩ rfl (Nat.le_of_ble_eq_true rfl) rfl rfl dX6_hire_13 ?_
    refine ww_if_ne (pc := 16) (tgt := 21) C dX6_hire_16 (by decide) (fun c8 => ?_) (fun c8 => ?_)
    · have hf := oa_ifn c8 hf
      refine ww_aload_n (pc := 21) (i := 0) C 0 dX6_hire_21 rfl rfl ?_
      refine ww_iload_n (pc := 22) (i := 1) C 1 dX6_hire_22 rfl rfl ?_
      obtain ⟨y9, e10, hf⟩ := oa_bind hf
      refine ww_callV (pc := 23) (As := [.int x1]) (rest := []) (wd := wd_O O a B J) (ws' := wd_O O a B J) (rv := (some (.int y9))) C hY_X6_hiredCost hV_X6_hiredCost lk_X6_229 (m_X6_hiredCost _ O a B J x1 _ e10) [0, 1, 2, 3, 4, 5, 6, 7, 8, 9, 10, 11, 12, 13, 14, 15, 16, 17, 18, 19, 20, 21, 22, 23, 24, 25, 26, 27, 28, 29, 30, 31, 32, 33, 34, 35, 36, 37, 38, 39, 40, 41, 42, 43, 44, 45, 46, 47, 48, 49] 0 rfl rfl rfl rfl rfl (oa_putS _ _ _ rfl) (fun _ h => h) ⟨rfl, rfl⟩ ⟨Nat.zero_le _, Nat.zero_le _⟩ ⟨Nat.le_of_ble_eq_true rfl, Nat.le_of_ble_eq_true rfl⟩ rfl (Nat.le_of_ble_eq_true rfl) rfl rfl dX6_hire_23 ?_
      refine ww_istore_n (pc := 26) (L' := [(0, .ref (a 0)), (1, .int x1), (2, .int x2), (3, .int y9)]) C [1, 2, 3, 0] dX6_hire_26 rfl (Nat.le_of_ble_eq_true rfl) rfl ?_
      refine ww_aload_n (pc := 27) (i := 0) C 0 dX6_hire_27 rfl rfl ?_
      refine ww_get (pc := 28) C fl_X6_10 0 rfl rfl dX6_hire_28 ?_
      obtain ⟨y12, e13, hf⟩ := oa_bind hf
      refine ww_callV (pc := 31) (As := []) (rest := []) (wd := wd_V O (fun i => a (i + 1)) (B 0)) (ws' := wd_O O a B J) (rv := (some (.long y12))) C hY_X5_openWrongs hV_X5_openWrongs lk_X6_192 (m_X5_openWrongs _ O (fun i => a (i + 1)) (B 0) _ e13) [1, 2, 3, 4, 5, 6] 1 rfl rfl rfl rfl rfl (oa_putS _ _ _ rfl) (fun _ h => h) ⟨rfl, rfl⟩ ⟨Nat.zero_le _, Nat.zero_le _⟩ ⟨Nat.le_of_ble_eq_true rfl, Nat.le_of_ble_eq_true rfl⟩ rfl (Nat.le_of_ble_eq_true rfl) rfl rfl dX6_hire_31 ?_
      obtain ⟨y15, e16, hf⟩ := oa_bind hf
      refine ww_callS (pc := 34) (As := [.long y12]) (rest := []) (wd := []) (ws' := wd_O O a B J) (rv := (some (.int y15))) C hY_J13_bitCount_95d88 hS_J13_bitCount_95d88 lk_X6_225 (m_J13_bitCount_95d88 _ O  y12 _ e16) [] rfl rfl rfl (oa_putS _ _ _ rfl) (fun _ h => h) ⟨rfl, rfl⟩ ⟨Nat.zero_le _, Nat.zero_le _⟩ ⟨Nat.le_of_ble_eq_true rfl, Nat.le_of_ble_eq_true rfl⟩ rfl (Nat.le_of_ble_eq_true rfl) rfl rfl dX6_hire_34 ?_
      refine ww_istore (pc := 37) (L' := [(0, .ref (a 0)), (1, .int x1), (2, .int x2), (3, .int y9), (4, .int y15)]) C [1, 2, 3, 4, 0] dX6_hire_37 (Nat.le_of_ble_eq_true rfl) rfl ?_
      refine ww_bipush (pc := 39) C dX6_hire_39 kb_m4 ?_
      refine ww_istore (pc := 41) (L' := [(0, .ref (a 0)), (1, .int x1), (2, .int x2), (3, .int y9), (4, .int y15), (5, .int (-4))]) C [1, 2, 3, 4, 5, 0] dX6_hire_41 (Nat.le_of_ble_eq_true rfl) rfl ?_
      refine ww_iconst (pc := 43) C dX6_hire_43 kc_0 ?_
      refine ww_istore (pc := 44) (L' := [(0, .ref (a 0)), (1, .int x1), (2, .int x2), (3, .int y9), (4, .int y15), (5, .int (-4)), (6, .int 0)]) C [1, 2, 3, 4, 5, 6, 0] dX6_hire_44 (Nat.le_of_ble_eq_true rfl) rfl ?_
      refine ww_iconst (pc := 46) C dX6_hire_46 kc_0 ?_
      refine ww_istore (pc := 47) (L' := [(0, .ref (a 0)), (1, .int x1), (2, .int x2), (3, .int y9), (4, .int y15), (5, .int (-4)), (6, .int 0), (7, .int 0)]) C [1, 2, 3, 4, 5, 6, 7, 0] dX6_hire_47 (Nat.le_of_ble_eq_true rfl) rfl ?_
      refine ww_sub C [0, 2, 3, 4, 5, 6, 7] rfl ?_
      exact t_l_X6_hire_49 C B J x1 x2 y9 y15   oa_fu (-4) 0 0 hf
    · have hf := oa_ifp c8 hf
      refine ww_iconst (pc := 19) C dX6_hire_19 kc_m1 ?_
      obtain rfl := Option.some.inj hf
      exact ww_iret (pc := 20) C rfl dX6_hire_20
theorem dX6_inLowestTerms_0 : decode cX6_inLowestTerms 0 = .ok (.lload_n 0, 1) := by decide +kernel
theorem dX6_inLowestTerms_1 : decode cX6_inLowestTerms 1 = .ok (.invokestatic 305, 3) := by decide +kernel
theorem dX6_inLowestTerms_4 : decode cX6_inLowestTerms 4 = .ok (.lload_n 2, 1) := by decide +kernel
theorem dX6_inLowestTerms_5 : decode cX6_inLowestTerms 5 = .ok (.invokestatic 309, 3) := by decide +kernel
theorem dX6_inLowestTerms_8 : decode cX6_inLowestTerms 8 = .ok (.lstore 5, 2) := by decide +kernel
theorem dX6_inLowestTerms_10 : decode cX6_inLowestTerms 10 = .ok (.lload 5, 2) := by decide +kernel
theorem dX6_inLowestTerms_12 : decode cX6_inLowestTerms 12 = .ok (.lconst 0, 1) := by decide +kernel
theorem dX6_inLowestTerms_13 : decode cX6_inLowestTerms 13 = .ok (.lcmp, 1) := by decide +kernel
theorem dX6_inLowestTerms_14 : decode cX6_inLowestTerms 14 = .ok (.ifCond .ne 7, 3) := by decide +kernel
theorem dX6_inLowestTerms_17 : decode cX6_inLowestTerms 17 = .ok (.lconst 0, 1) := by decide +kernel
theorem dX6_inLowestTerms_18 : decode cX6_inLowestTerms 18 = .ok (.goto 16, 3) := by decide +kernel
theorem dX6_inLowestTerms_21 : decode cX6_inLowestTerms 21 = .ok (.iload 4, 2) := by decide +kernel
theorem dX6_inLowestTerms_23 : decode cX6_inLowestTerms 23 = .ok (.ifCond .ne 7, 3) := by decide +kernel
theorem dX6_inLowestTerms_26 : decode cX6_inLowestTerms 26 = .ok (.lload_n 0, 1) := by decide +kernel
theorem dX6_inLowestTerms_27 : decode cX6_inLowestTerms 27 = .ok (.goto 4, 3) := by decide +kernel
theorem dX6_inLowestTerms_30 : decode cX6_inLowestTerms 30 = .ok (.lload_n 2, 1) := by decide +kernel
theorem dX6_inLowestTerms_31 : decode cX6_inLowestTerms 31 = .ok (.lload 5, 2) := by decide +kernel
theorem dX6_inLowestTerms_33 : decode cX6_inLowestTerms 33 = .ok (.ldiv, 1) := by decide +kernel
theorem dX6_inLowestTerms_34 : decode cX6_inLowestTerms 34 = .ok (.lreturn, 1) := by decide +kernel
abbrev rm_X6_inLowestTerms : Room := { frames := 1, cells := 0, slots := 0, locals := 30 }
theorem m_X6_inLowestTerms (l : Launch) (O : oa_O)   (x0 : Int64) (x2 : Int64) (x4 : Int32) (res : Int64) (hf : f_X6_inLowestTerms x0 x2 x4 = some res) : oa_M l yX6_inLowestTerms cX6_inLowestTerms 7 (some .long) rm_X6_inLowestTerms O [.long x0, .long x2, .int x4] ([]) (some (.long res)) (fun W1 => W1 = []) := by
  refine oa_Mof (by decide) (Nat.le_of_ble_eq_true rfl) (fun G A hl C => ?_)
  subst hl
  have C : oa_C G cX6_inLowestTerms 7 RX6 (some .long) rm_X6_inLowestTerms O A := C
  have hf : f_X6_inLowestTerms x0 x2 x4 = some res := hf
  delta f_X6_inLowestTerms at hf
  show ww G 7 O A (oa_Q G O A (0, 0) (some (.long res)) (fun W1 => W1 = [])) (0, 0) 0 [(0, .long x0), (2, .long x2), (4, .int x4)] [] ([])
  refine ww_lload_n (pc := 0) (i := 0) C 0 dX6_inLowestTerms_0 rfl rfl ?_
  refine ww_mabs (pc := 1) C lk_X6_305 hS_J9_abs_067f4 hY_J9_abs_067f4 (Nat.le_of_ble_eq_true rfl) (Nat.le_of_ble_eq_true rfl) ⟨Nat.zero_le _, Nat.zero_le _⟩ dX6_inLowestTerms_1 ?_
  refine ww_lload_n (pc := 4) (i := 2) C 1 dX6_inLowestTerms_4 rfl rfl ?_
  obtain ⟨y1, e2, hf⟩ := oa_bind hf
  refine ww_callS (pc := 5) (As := [.long (if 0 < x0 then x0 else -x0), .long x2]) (rest := []) (wd := []) (ws' := []) (rv := (some (.long y1))) C hY_X6_commonDivisor hS_X6_commonDivisor lk_X6_309 (m_X6_commonDivisor _ O  (if 0 < x0 then x0 else -x0) x2 _ e2) [] rfl rfl rfl (oa_putS _ _ _ rfl) (fun _ h => h) ⟨rfl, rfl⟩ ⟨Nat.zero_le _, Nat.zero_le _⟩ ⟨Nat.le_of_ble_eq_true rfl, Nat.le_of_ble_eq_true rfl⟩ rfl (Nat.le_of_ble_eq_true rfl) rfl rfl dX6_inLowestTerms_5 ?_
  refine ww_lstore (pc := 8) (L' := [(0, .long x0), (2, .long x2), (4, .int x4), (5, .long y1)]) C [1, 2, 3, 0] dX6_inLowestTerms_8 (Nat.le_of_ble_eq_true rfl) rfl ?_
  refine ww_lload (pc := 10) (i := 5) C 3 dX6_inLowestTerms_10 rfl ?_
  refine ww_lconst (pc := 12) C dX6_inLowestTerms_12 kl_0 ?_
  refine ww_lcmp (pc := 13) C dX6_inLowestTerms_13 ?_
  refine ww_if_ne (pc := 14) (tgt := 21) C dX6_inLowestTerms_14 (by decide) (fun c4 => ?_) (fun c4 => ?_)
  · have hf := oa_ifn c4 hf
    refine ww_iload (pc := 21) (i := 4) C 2 dX6_inLowestTerms_21 rfl ?_
    refine ww_if_ne (pc := 23) (tgt := 30) C dX6_inLowestTerms_23 (by decide) (fun c5 => ?_) (fun c5 => ?_)
    · have hf := oa_ifn c5 hf
      refine ww_lload_n (pc := 30) (i := 2) C 1 dX6_inLowestTerms_30 rfl rfl ?_
      refine ww_lload (pc := 31) (i := 5) C 3 dX6_inLowestTerms_31 rfl ?_
      by_cases c6 : y1 = 0
      · exact nomatch (oa_ifp c6 hf)
      have hf := oa_ifn c6 hf
      refine ww_ldiv (pc := 33) C dX6_inLowestTerms_33 c6 ?_
      obtain rfl := Option.some.inj hf
      exact ww_lret (pc := 34) C rfl dX6_inLowestTerms_34
    · have hf := oa_ifp c5 hf
      refine ww_lload_n (pc := 26) (i := 0) C 0 dX6_inLowestTerms_26 rfl rfl ?_
      refine ww_goto (pc := 27) (tgt := 31) C dX6_inLowestTerms_27 (by decide) ?_
      refine ww_lload (pc := 31) (i := 5) C 3 dX6_inLowestTerms_31 rfl ?_
      by_cases c7 : y1 = 0
      · exact nomatch (oa_ifp c7 hf)
      have hf := oa_ifn c7 hf
      refine ww_ldiv (pc := 33) C dX6_inLowestTerms_33 c7 ?_
      obtain rfl := Option.some.inj hf
      exact ww_lret (pc := 34) C rfl dX6_inLowestTerms_34
  · have hf := oa_ifp c4 hf
    refine ww_lconst (pc := 17) C dX6_inLowestTerms_17 kl_0 ?_
    refine ww_goto (pc := 18) (tgt := 34) C dX6_inLowestTerms_18 (by decide) ?_
    obtain rfl := Option.some.inj hf
    exact ww_lret (pc := 34) C rfl dX6_inLowestTerms_34
theorem dX6_keep_0 : decode cX6_keep 0 = .ok (.iload_n 1, 1) := by decide +kernel
theorem dX6_keep_1 : decode cX6_keep 1 = .ok (.iconst 0, 1) := by decide +kernel
theorem dX6_keep_2 : decode cX6_keep 2 = .ok (.iconst 1, 1) := by decide +kernel
theorem dX6_keep_3 : decode cX6_keep 3 = .ok (.invokestatic 96, 3) := by decide +kernel
theorem dX6_keep_6 : decode cX6_keep 6 = .ok (.ifCond .ne 5, 3) := by decide +kernel
theorem dX6_keep_9 : decode cX6_keep 9 = .ok (.iconst (-1), 1) := by decide +kernel
theorem dX6_keep_10 : decode cX6_keep 10 = .ok (.ireturn, 1) := by decide +kernel
theorem dX6_keep_11 : decode cX6_keep 11 = .ok (.aload_n 0, 1) := by decide +kernel
theorem dX6_keep_12 : decode cX6_keep 12 = .ok (.getfield 30, 3) := by decide +kernel
theorem dX6_keep_15 : decode cX6_keep 15 = .ok (.iload_n 1, 1) := by decide +kernel
theorem dX6_keep_16 : decode cX6_keep 16 = .ok (.baload, 1) := by decide +kernel
theorem dX6_keep_17 : decode cX6_keep 17 = .ok (.ifCond .eq 7, 3) := by decide +kernel
theorem dX6_keep_20 : decode cX6_keep 20 = .ok (.iconst 1, 1) := by decide +kernel
theorem dX6_keep_21 : decode cX6_keep 21 = .ok (.goto 4, 3) := by decide +kernel
theorem dX6_keep_24 : decode cX6_keep 24 = .ok (.iconst 0, 1) := by decide +kernel
theorem dX6_keep_25 : decode cX6_keep 25 = .ok (.istore_n 2, 1) := by decide +kernel
theorem dX6_keep_26 : decode cX6_keep 26 = .ok (.aload_n 0, 1) := by decide +kernel
theorem dX6_keep_27 : decode cX6_keep 27 = .ok (.getfield 26, 3) := by decide +kernel
theorem dX6_keep_30 : decode cX6_keep 30 = .ok (.iload_n 1, 1) := by decide +kernel
theorem dX6_keep_31 : decode cX6_keep 31 = .ok (.aaload, 1) := by decide +kernel
theorem dX6_keep_32 : decode cX6_keep 32 = .ok (.aload_n 0, 1) := by decide +kernel
theorem dX6_keep_33 : decode cX6_keep 33 = .ok (.getfield 10, 3) := by decide +kernel
theorem dX6_keep_36 : decode cX6_keep 36 = .ok (.invokevirtual 89, 3) := by decide +kernel
theorem dX6_keep_39 : decode cX6_keep 39 = .ok (.aload_n 0, 1) := by decide +kernel
theorem dX6_keep_40 : decode cX6_keep 40 = .ok (.getfield 30, 3) := by decide +kernel
theorem dX6_keep_43 : decode cX6_keep 43 = .ok (.iload_n 1, 1) := by decide +kernel
theorem dX6_keep_44 : decode cX6_keep 44 = .ok (.iconst 1, 1) := by decide +kernel
theorem dX6_keep_45 : decode cX6_keep 45 = .ok (.bastore, 1) := by decide +kernel
theorem dX6_keep_46 : decode cX6_keep 46 = .ok (.iload_n 2, 1) := by decide +kernel
theorem dX6_keep_47 : decode cX6_keep 47 = .ok (.ireturn, 1) := by decide +kernel
abbrev rm_X6_keep : Room := { frames := 2, cells := 0, slots := 0, locals := 45 }
theorem t_b_X6_keep_25 {G : oa_G} {O : oa_O} {A : Nat → Prop} {a : Nat → Nat} {res : Int32 × oa_I3} (C : oa_C G cX6_keep 3 RX6 (some .int) rm_X6_keep O A) (J : oa_J2) (x1 : Int32)  (B : oa_I3) (s0 : Int32)    (hf : b_X6_keep_25 J x1 B s0 = some res) : ww G 3 O A (oa_Q G O A (0, 0) (some (.int res.1)) (fun W1 => W1 = wd_O O a res.2 J)) (0, 0) 25 [(0, .ref (a 0)), (1, .int x1)] [.int s0] (wd_O O a B J) := by
  delta b_X6_keep_25 at hf
  refine ww_istore_n (pc := 25) (L' := [(0, .ref (a 0)), (1, .int x1), (2, .int s0)]) C [1, 2, 0] dX6_keep_25 rfl (Nat.le_of_ble_eq_true rfl) rfl ?_
  refine ww_aload_n (pc := 26) (i := 0) C 0 dX6_keep_26 rfl rfl ?_
  refine ww_get (pc := 27) C fl_X6_26 0 rfl rfl dX6_keep_27 ?_
  refine ww_iload_n (pc := 30) (i := 1) C 1 dX6_keep_30 rfl rfl ?_
  by_cases c8 : x1 = 0
  · have hf := oa_ifp c8 hf
    refine ww_aald (pc := 31) (i0 := 0) (b := (a 30)) (Cn := "OneAnger$Village") C 21 rfl rfl c8 (by decide) (by decide) rfl dX6_keep_31 ?_
    refine ww_aload_n (pc := 32) (i := 0) C 0 dX6_keep_32 rfl rfl ?_
    refine ww_get (pc := 33) C fl_X6_10 0 rfl rfl dX6_keep_33 ?_
    obtain ⟨V9, e10, hf⟩ := oa_bind hf
    obtain ⟨B12, e13, hf⟩ := oa_letE hf
    refine ww_callV (pc := 36) (As := [.ref (a 1)]) (rest := []) (wd := wd_VV O (fun i => a (i + 30)) (fun i => a (i + 1)) V9 (B 0)) (ws' := wd_O O a B12 J) (rv := none) C hY_X5_copyOf hV_X5_copyOf lk_X6_89 (m_X5_copyOf _ O (fun i => a (i + 30)) (fun i => a (i + 1)) (B 3) (B 0) _ e10) [30, 31, 32, 33, 34, 35, 1, 2, 3, 4, 5, 6] 30 rfl rfl rfl rfl rfl (by subst e13; rfl) (fun _ h => h) ⟨rfl, rfl⟩ ⟨Nat.zero_le _, Nat.zero_le _⟩ ⟨Nat.le_of_ble_eq_true rfl, Nat.le_of_ble_eq_true rfl⟩ rfl (Nat.le_of_ble_eq_true rfl) rfl rfl dX6_keep_36 ?_
    refine ww_aload_n (pc := 39) (i := 0) C 0 dX6_keep_39 rfl rfl ?_
    refine ww_get (pc := 40) C fl_X6_30 0 rfl rfl dX6_keep_40 ?_
    refine ww_iload_n (pc := 43) (i := 1) C 1 dX6_keep_43 rfl rfl ?_
    refine ww_iconst (pc := 44) C dX6_keep_44 kc_1 ?_
    obtain ⟨g14, e15, hf⟩ := oa_bind hf
    obtain ⟨B16, e17, hf⟩ := oa_letE hf
    refine ww_zast (pc := 45) C (fun Z => wd_O O a Z J) 22 rfl e15 e17 rfl dX6_keep_45 ?_
    refine ww_iload_n (pc := 46) (i := 2) C 2 dX6_keep_46 rfl rfl ?_
    obtain rfl := Option.some.inj hf
    exact ww_iret (pc := 47) C rfl dX6_keep_47
  have hf := oa_ifn c8 hf
  by_cases c18 : x1 = 1
  · have hf := oa_ifp c18 hf
    refine ww_aald (pc := 31) (i0 := 1) (b := (a 36)) (Cn := "OneAnger$Village") C 21 rfl rfl c18 (by decide) (by decide) rfl dX6_keep_31 ?_
    refine ww_aload_n (pc := 32) (i := 0) C 0 dX6_keep_32 rfl rfl ?_
    refine ww_get (pc := 33) C fl_X6_10 0 rfl rfl dX6_keep_33 ?_
    obtain ⟨V19, e20, hf⟩ := oa_bind hf
    obtain ⟨B22, e23, hf⟩ := oa_letE hf
    refine ww_callV (pc := 36) (As := [.ref (a 1)]) (rest := []) (wd := wd_VV O (fun i => a (i + 36)) (fun i => a (i + 1)) V19 (B 0)) (ws' := wd_O O a B22 J) (rv := none) C hY_X5_copyOf hV_X5_copyOf lk_X6_89 (m_X5_copyOf _ O (fun i => a (i + 36)) (fun i => a (i + 1)) (B 4) (B 0) _ e20) [36, 37, 38, 39, 40, 41, 1, 2, 3, 4, 5, 6] 36 rfl rfl rfl rfl rfl (by subst e23; rfl) (fun _ h => h) ⟨rfl, rfl⟩ ⟨Nat.zero_le _, Nat.zero_le _⟩ ⟨Nat.le_of_ble_eq_true rfl, Nat.le_of_ble_eq_true rfl⟩ rfl (Nat.le_of_ble_eq_true rfl) rfl rfl dX6_keep_36 ?_
    refine ww_aload_n (pc := 39) (i := 0) C 0 dX6_keep_39 rfl rfl ?_
    refine ww_get (pc := 40) C fl_X6_30 0 rfl rfl dX6_keep_40 ?_
    refine ww_iload_n (pc := 43) (i := 1) C 1 dX6_keep_43 rfl rfl ?_
    refine ww_iconst (pc := 44) C dX6_keep_44 kc_1 ?_
    obtain ⟨g24, e25, hf⟩ := oa_bind hf
    obtain ⟨B26, e27, hf⟩ := oa_letE hf
    refine ww_zast (pc := 45) C (fun Z => wd_O O a Z J) 22 rfl e25 e27 rfl dX6_keep_45 ?_
    refine ww_iload_n (pc := 46) (i := 2) C 2 dX6_keep_46 rfl rfl ?_
    obtain rfl := Option.some.inj hf
    exact ww_iret (pc := 47) C rfl dX6_keep_47
  have hf := oa_ifn c18 hf
  exact nomatch hf
theorem m_X6_keep (l : Launch) (O : oa_O) (a : Nat → Nat) (B : oa_I3) (J : oa_J2) (x1 : Int32) (res : Int32 × oa_I3) (hf : f_X6_keep B J x1 = some res) : oa_M l yX6_keep cX6_keep 3 (some .int) rm_X6_keep O [.ref (a 0), .int x1] (wd_O O a B J) (some (.int res.1)) (fun W1 => W1 = wd_O O a res.2 J) := by
  refine oa_Mof (by decide) (Nat.le_of_ble_eq_true rfl) (fun G A hl C => ?_)
  subst hl
  have C : oa_C G cX6_keep 3 RX6 (some .int) rm_X6_keep O A := C
  have hf : f_X6_keep B J x1 = some res := hf
  delta f_X6_keep at hf
  show ww G 3 O A (oa_Q G O A (0, 0) (some (.int res.1)) (fun W1 => W1 = wd_O O a res.2 J)) (0, 0) 0 [(0, .ref (a 0)), (1, .int x1)] [] (wd_O O a B J)
  refine ww_iload_n (pc := 0) (i := 1) C 1 dX6_keep_0 rfl rfl ?_
  refine ww_iconst (pc := 1) C dX6_keep_1 kc_0 ?_
  refine ww_iconst (pc := 2) C dX6_keep_2 kc_1 ?_
  obtain ⟨y1, e2, hf⟩ := oa_bind hf
  refine ww_callS (pc := 3) (As := [.int x1, .int 0, .int 1]) (rest := []) (wd := []) (ws' := wd_O O a B J) (rv := (some (.int y1))) C hY_X6_within hS_X6_within lk_X6_96 (m_X6_within _ O  x1 0 1 _ e2) [] rfl rfl rfl (oa_putS _ _ _ rfl) (fun _ h => h) ⟨rfl, rfl⟩ ⟨Nat.zero_le _, Nat.zero_le _⟩ ⟨Nat.le_of_ble_eq_true rfl, Nat.le_of_ble_eq_true rfl⟩ rfl (Nat.le_of_ble_eq_true rfl) rfl rfl dX6_keep_3 ?_
  refine ww_if_ne (pc := 6) (tgt := 11) C dX6_keep_6 (by decide) (fun c4 => ?_) (fun c4 => ?_)
  · have hf := oa_ifn c4 hf
    refine ww_aload_n (pc := 11) (i := 0) C 0 dX6_keep_11 rfl rfl ?_
    refine ww_get (pc := 12) C fl_X6_30 0 rfl rfl dX6_keep_12 ?_
    refine ww_iload_n (pc := 15) (i := 1) C 1 dX6_keep_15 rfl rfl ?_
    obtain ⟨y5, e6, hf⟩ := oa_bind hf
    refine ww_zald (pc := 16) C 22 rfl e6 dX6_keep_16 ?_
    refine ww_if_eq (pc := 17) (tgt := 24) C dX6_keep_17 (by decide) (fun c7 => ?_) (fun c7 => ?_)
    · have hf := oa_ifp c7 hf
      refine ww_iconst (pc := 24) C dX6_keep_24 kc_0 ?_
      exact t_b_X6_keep_25 C J x1 B 0   hf
    · have hf := oa_ifn c7 hf
      refine ww_iconst (pc := 20) C dX6_keep_20 kc_1 ?_
      refine ww_goto (pc := 21) (tgt := 25) C dX6_keep_21 (by decide) ?_
      exact t_b_X6_keep_25 C J x1 B 1   hf
  · have hf := oa_ifp c4 hf
    refine ww_iconst (pc := 9) C dX6_keep_9 kc_m1 ?_
    obtain rfl := Option.some.inj hf
    exact ww_iret (pc := 10) C rfl dX6_keep_10
theorem dX6_lay_0 : decode cX6_lay 0 = .ok (.iload_n 1, 1) := by decide +kernel
theorem dX6_lay_1 : decode cX6_lay 1 = .ok (.iconst 0, 1) := by decide +kernel
theorem dX6_lay_2 : decode cX6_lay 2 = .ok (.iconst 3, 1) := by decide +kernel
theorem dX6_lay_3 : decode cX6_lay 3 = .ok (.invokestatic 96, 3) := by decide +kernel
theorem dX6_lay_6 : decode cX6_lay 6 = .ok (.ifCond .ne 5, 3) := by decide +kernel
theorem dX6_lay_9 : decode cX6_lay 9 = .ok (.iconst (-1), 1) := by decide +kernel
theorem dX6_lay_10 : decode cX6_lay 10 = .ok (.ireturn, 1) := by decide +kernel
theorem dX6_lay_11 : decode cX6_lay 11 = .ok (.aload_n 0, 1) := by decide +kernel
theorem dX6_lay_12 : decode cX6_lay 12 = .ok (.getfield 36, 3) := by decide +kernel
theorem dX6_lay_15 : decode cX6_lay 15 = .ok (.iload_n 1, 1) := by decide +kernel
theorem dX6_lay_16 : decode cX6_lay 16 = .ok (.aaload, 1) := by decide +kernel
theorem dX6_lay_17 : decode cX6_lay 17 = .ok (.iload_n 2, 1) := by decide +kernel
theorem dX6_lay_18 : decode cX6_lay 18 = .ok (.iload_n 3, 1) := by decide +kernel
theorem dX6_lay_19 : decode cX6_lay 19 = .ok (.invokevirtual 274, 3) := by decide +kernel
theorem dX6_lay_22 : decode cX6_lay 22 = .ok (.istore 4, 2) := by decide +kernel
theorem dX6_lay_24 : decode cX6_lay 24 = .ok (.iload 4, 2) := by decide +kernel
theorem dX6_lay_26 : decode cX6_lay 26 = .ok (.ifCond .ne 7, 3) := by decide +kernel
theorem dX6_lay_29 : decode cX6_lay 29 = .ok (.iconst 1, 1) := by decide +kernel
theorem dX6_lay_30 : decode cX6_lay 30 = .ok (.goto 8, 3) := by decide +kernel
theorem dX6_lay_33 : decode cX6_lay 33 = .ok (.bipush (-10), 2) := by decide +kernel
theorem dX6_lay_35 : decode cX6_lay 35 = .ok (.iload 4, 2) := by decide +kernel
theorem dX6_lay_37 : decode cX6_lay 37 = .ok (.isub, 1) := by decide +kernel
theorem dX6_lay_38 : decode cX6_lay 38 = .ok (.ireturn, 1) := by decide +kernel
abbrev rm_X6_lay : Room := { frames := 2, cells := 0, slots := 0, locals := 44 }
theorem m_X6_lay (l : Launch) (O : oa_O) (a : Nat → Nat) (B : oa_I3) (J : oa_J2) (x1 : Int32) (x2 : Int32) (x3 : Int32) (res : Int32 × oa_I3) (hf : f_X6_lay B J x1 x2 x3 = some res) : oa_M l yX6_lay cX6_lay 5 (some .int) rm_X6_lay O [.ref (a 0), .int x1, .int x2, .int x3] (wd_O O a B J) (some (.int res.1)) (fun W1 => W1 = wd_O O a res.2 J) := by
  refine oa_Mof (by decide) (Nat.le_of_ble_eq_true rfl) (fun G A hl C => ?_)
  subst hl
  have C : oa_C G cX6_lay 5 RX6 (some .int) rm_X6_lay O A := C
  have hf : f_X6_lay B J x1 x2 x3 = some res := hf
  delta f_X6_lay at hf
  show ww G 5 O A (oa_Q G O A (0, 0) (some (.int res.1)) (fun W1 => W1 = wd_O O a res.2 J)) (0, 0) 0 [(0, .ref (a 0)), (1, .int x1), (2, .int x2), (3, .int x3)] [] (wd_O O a B J)
  refine ww_iload_n (pc := 0) (i := 1) C 1 dX6_lay_0 rfl rfl ?_
  refine ww_iconst (pc := 1) C dX6_lay_1 kc_0 ?_
  refine ww_iconst (pc := 2) C dX6_lay_2 kc_3 ?_
  obtain ⟨y1, e2, hf⟩ := oa_bind hf
  refine ww_callS (pc := 3) (As := [.int x1, .int 0, .int 3]) (rest := []) (wd := []) (ws' := wd_O O a B J) (rv := (some (.int y1))) C hY_X6_within hS_X6_within lk_X6_96 (m_X6_within _ O  x1 0 3 _ e2) [] rfl rfl rfl (oa_putS _ _ _ rfl) (fun _ h => h) ⟨rfl, rfl⟩ ⟨Nat.zero_le _, Nat.zero_le _⟩ ⟨Nat.le_of_ble_eq_true rfl, Nat.le_of_ble_eq_true rfl⟩ rfl (Nat.le_of_ble_eq_true rfl) rfl rfl dX6_lay_3 ?_
  refine ww_if_ne (pc := 6) (tgt := 11) C dX6_lay_6 (by decide) (fun c4 => ?_) (fun c4 => ?_)
  · have hf := oa_ifn c4 hf
    refine ww_aload_n (pc := 11) (i := 0) C 0 dX6_lay_11 rfl rfl ?_
    refine ww_get (pc := 12) C fl_X6_36 0 rfl rfl dX6_lay_12 ?_
    refine ww_iload_n (pc := 15) (i := 1) C 1 dX6_lay_15 rfl rfl ?_
    by_cases c5 : x1 = 0
    · have hf := oa_ifp c5 hf
      refine ww_aald (pc := 16) (i0 := 0) (b := (a 42)) (Cn := "OneAnger$Sheet") C 23 rfl rfl c5 (by decide) (by decide) rfl dX6_lay_16 ?_
      refine ww_iload_n (pc := 17) (i := 2) C 2 dX6_lay_17 rfl rfl ?_
      refine ww_iload_n (pc := 18) (i := 3) C 3 dX6_lay_18 rfl rfl ?_
      obtain ⟨y6, S7, e8, hf⟩ := oa_bind2 hf
      obtain ⟨B10, e11, hf⟩ := oa_letE hf
      refine ww_callV (pc := 19) (As := [.int x2, .int x3]) (rest := []) (wd := wd_S O (fun i => a (i + 42)) S7) (ws' := wd_O O a B10 J) (rv := (some (.int y6))) C hY_X3_put hV_X3_put lk_X6_274 (m_X3_put _ O (fun i => a (i + 42)) (B 7) x2 x3 _ e8) [42, 43] 42 rfl rfl rfl rfl rfl (by subst e11; rfl) (fun _ h => h) ⟨rfl, rfl⟩ ⟨Nat.zero_le _, Nat.zero_le _⟩ ⟨Nat.le_of_ble_eq_true rfl, Nat.le_of_ble_eq_true rfl⟩ rfl (Nat.le_of_ble_eq_true rfl) rfl rfl dX6_lay_19 ?_
      refine ww_istore (pc := 22) (L' := [(0, .ref (a 0)), (1, .int x1), (2, .int x2), (3, .int x3), (4, .int y6)]) C [1, 2, 3, 4, 0] dX6_lay_22 (Nat.le_of_ble_eq_true rfl) rfl ?_
      refine ww_iload (pc := 24) (i := 4) C 4 dX6_lay_24 rfl ?_
      refine ww_if_ne (pc := 26) (tgt := 33) C dX6_lay_26 (by decide) (fun c12 => ?_) (fun c12 => ?_)
      · have hf := oa_ifn c12 hf
        refine ww_bipush (pc := 33) C dX6_lay_33 kb_m10 ?_
        refine ww_iload (pc := 35) (i := 4) C 4 dX6_lay_35 rfl ?_
        refine ww_isub (pc := 37) C dX6_lay_37 ?_
        obtain rfl := Option.some.inj hf
        exact ww_iret (pc := 38) C rfl dX6_lay_38
      · have hf := oa_ifp c12 hf
        refine ww_iconst (pc := 29) C dX6_lay_29 kc_1 ?_
        refine ww_goto (pc := 30) (tgt := 38) C dX6_lay_30 (by decide) ?_
        obtain rfl := Option.some.inj hf
        exact ww_iret (pc := 38) C rfl dX6_lay_38
    have hf := oa_ifn c5 hf
    by_cases c13 : x1 = 1
    · have hf := oa_ifp c13 hf
      refine ww_aald (pc := 16) (i0 := 1) (b := (a 44)) (Cn := "OneAnger$Sheet") C 23 rfl rfl c13 (by decide) (by decide) rfl dX6_lay_16 ?_
      refine ww_iload_n (pc := 17) (i := 2) C 2 dX6_lay_17 rfl rfl ?_
      refine ww_iload_n (pc := 18) (i := 3) C 3 dX6_lay_18 rfl rfl ?_
      obtain ⟨y14, S15, e16, hf⟩ := oa_bind2 hf
      obtain ⟨B18, e19, hf⟩ := oa_letE hf
      refine ww_callV (pc := 19) (As := [.int x2, .int x3]) (rest := []) (wd := wd_S O (fun i => a (i + 44)) S15) (ws' := wd_O O a B18 J) (rv := (some (.int y14))) C hY_X3_put hV_X3_put lk_X6_274 (m_X3_put _ O (fun i => a (i + 44)) (B 8) x2 x3 _ e16) [44, 45] 44 rfl rfl rfl rfl rfl (by subst e19; rfl) (fun _ h => h) ⟨rfl, rfl⟩ ⟨Nat.zero_le _, Nat.zero_le _⟩ ⟨Nat.le_of_ble_eq_true rfl, Nat.le_of_ble_eq_true rfl⟩ rfl (Nat.le_of_ble_eq_true rfl) rfl rfl dX6_lay_19 ?_
      refine ww_istore (pc := 22) (L' := [(0, .ref (a 0)), (1, .int x1), (2, .int x2), (3, .int x3), (4, .int y14)]) C [1, 2, 3, 4, 0] dX6_lay_22 (Nat.le_of_ble_eq_true rfl) rfl ?_
      refine ww_iload (pc := 24) (i := 4) C 4 dX6_lay_24 rfl ?_
      refine ww_if_ne (pc := 26) (tgt := 33) C dX6_lay_26 (by decide) (fun c20 => ?_) (fun c20 => ?_)
      · have hf := oa_ifn c20 hf
        refine ww_bipush (pc := 33) C dX6_lay_33 kb_m10 ?_
        refine ww_iload (pc := 35) (i := 4) C 4 dX6_lay_35 rfl ?_
        refine ww_isub (pc := 37) C dX6_lay_37 ?_
        obtain rfl := Option.some.inj hf
        exact ww_iret (pc := 38) C rfl dX6_lay_38
      · have hf := oa_ifp c20 hf
        refine ww_iconst (pc := 29) C dX6_lay_29 kc_1 ?_
        refine ww_goto (pc := 30) (tgt := 38) C dX6_lay_30 (by decide) ?_
        obtain rfl := Option.some.inj hf
        exact ww_iret (pc := 38) C rfl dX6_lay_38
    have hf := oa_ifn c13 hf
    by_cases c21 : x1 = 2
    · have hf := oa_ifp c21 hf
      refine ww_aald (pc := 16) (i0 := 2) (b := (a 46)) (Cn := "OneAnger$Sheet") C 23 rfl rfl c21 (by decide) (by decide) rfl dX6_lay_16 ?_
      refine ww_iload_n (pc := 17) (i := 2) C 2 dX6_lay_17 rfl rfl ?_
      refine ww_iload_n (pc := 18) (i := 3) C 3 dX6_lay_18 rfl rfl ?_
      obtain ⟨y22, S23, e24, hf⟩ := oa_bind2 hf
      obtain ⟨B26, e27, hf⟩ := oa_letE hf
      refine ww_callV (pc := 19) (As := [.int x2, .int x3]) (rest := []) (wd := wd_S O (fun i => a (i + 46)) S23) (ws' := wd_O O a B26 J) (rv := (some (.int y22))) C hY_X3_put hV_X3_put lk_X6_274 (m_X3_put _ O (fun i => a (i + 46)) (B 9) x2 x3 _ e24) [46, 47] 46 rfl rfl rfl rfl rfl (by subst e27; rfl) (fun _ h => h) ⟨rfl, rfl⟩ ⟨Nat.zero_le _, Nat.zero_le _⟩ ⟨Nat.le_of_ble_eq_true rfl, Nat.le_of_ble_eq_true rfl⟩ rfl (Nat.le_of_ble_eq_true rfl) rfl rfl dX6_lay_19 ?_
      refine ww_istore (pc := 22) (L' := [(0, .ref (a 0)), (1, .int x1), (2, .int x2), (3, .int x3), (4, .int y22)]) C [1, 2, 3, 4, 0] dX6_lay_22 (Nat.le_of_ble_eq_true rfl) rfl ?_
      refine ww_iload (pc := 24) (i := 4) C 4 dX6_lay_24 rfl ?_
      refine ww_if_ne (pc := 26) (tgt := 33) C dX6_lay_26 (by decide) (fun c28 => ?_) (fun c28 => ?_)
      · have hf := oa_ifn c28 hf
        refine ww_bipush (pc := 33) C dX6_lay_33 kb_m10 ?_
        refine ww_iload (pc := 35) (i := 4) C 4 dX6_lay_35 rfl ?_
        refine ww_isub (pc := 37) C dX6_lay_37 ?_
        obtain rfl := Option.some.inj hf
        exact ww_iret (pc := 38) C rfl dX6_lay_38
      · have hf := oa_ifp c28 hf
        refine ww_iconst (pc := 29) C dX6_lay_29 kc_1 ?_
        refine ww_goto (pc := 30) (tgt := 38) C dX6_lay_30 (by decide) ?_
        obtain rfl := Option.some.inj hf
        exact ww_iret (pc := 38) C rfl dX6_lay_38
    have hf := oa_ifn c21 hf
    by_cases c29 : x1 = 3
    · have hf := oa_ifp c29 hf
      refine ww_aald (pc := 16) (i0 := 3) (b := (a 48)) (Cn := "OneAnger$Sheet") C 23 rfl rfl c29 (by decide) (by decide) rfl dX6_lay_16 ?_
      refine ww_iload_n (pc := 17) (i := 2) C 2 dX6_lay_17 rfl rfl ?_
      refine ww_iload_n (pc := 18) (i := 3) C 3 dX6_lay_18 rfl rfl ?_
      obtain ⟨y30, S31, e32, hf⟩ := oa_bind2 hf
      obtain ⟨B34, e35, hf⟩ := oa_letE hf
      refine ww_callV (pc := 19) (As := [.int x2, .int x3]) (rest := []) (wd := wd_S O (fun i => a (i + 48)) S31) (ws' := wd_O O a B34 J) (rv := (some (.int y30))) C hY_X3_put hV_X3_put lk_X6_274 (m_X3_put _ O (fun i => a (i + 48)) (B 10) x2 x3 _ e32) [48, 49] 48 rfl rfl rfl rfl rfl (by subst e35; rfl) (fun _ h => h) ⟨rfl, rfl⟩ ⟨Nat.zero_le _, Nat.zero_le _⟩ ⟨Nat.le_of_ble_eq_true rfl, Nat.le_of_ble_eq_true rfl⟩ rfl (Nat.le_of_ble_eq_true rfl) rfl rfl dX6_lay_19 ?_
      refine ww_istore (pc := 22) (L' := [(0, .ref (a 0)), (1, .int x1), (2, .int x2), (3, .int x3), (4, .int y30)]) C [1, 2, 3, 4, 0] dX6_lay_22 (Nat.le_of_ble_eq_true rfl) rfl ?_
      refine ww_iload (pc := 24) (i := 4) C 4 dX6_lay_24 rfl ?_
      refine ww_if_ne (pc := 26) (tgt := 33) C dX6_lay_26 (by decide) (fun c36 => ?_) (fun c36 => ?_)
      · have hf := oa_ifn c36 hf
        refine ww_bipush (pc := 33) C dX6_lay_33 kb_m10 ?_
        refine ww_iload (pc := 35) (i := 4) C 4 dX6_lay_35 rfl ?_
        refine ww_isub (pc := 37) C dX6_lay_37 ?_
        obtain rfl := Option.some.inj hf
        exact ww_iret (pc := 38) C rfl dX6_lay_38
      · have hf := oa_ifp c36 hf
        refine ww_iconst (pc := 29) C dX6_lay_29 kc_1 ?_
        refine ww_goto (pc := 30) (tgt := 38) C dX6_lay_30 (by decide) ?_
        obtain rfl := Option.some.inj hf
        exact ww_iret (pc := 38) C rfl dX6_lay_38
    have hf := oa_ifn c29 hf
    exact nomatch hf
  · have hf := oa_ifp c4 hf
    refine ww_iconst (pc := 9) C dX6_lay_9 kc_m1 ?_
    obtain rfl := Option.some.inj hf
    exact ww_iret (pc := 10) C rfl dX6_lay_10
theorem dX6_likeliest_0 : decode cX6_likeliest 0 = .ok (.aload_n 0, 1) := by decide +kernel
theorem dX6_likeliest_1 : decode cX6_likeliest 1 = .ok (.getfield 10, 3) := by decide +kernel
theorem dX6_likeliest_4 : decode cX6_likeliest 4 = .ok (.iload_n 1, 1) := by decide +kernel
theorem dX6_likeliest_5 : decode cX6_likeliest 5 = .ok (.invokevirtual 104, 3) := by decide +kernel
theorem dX6_likeliest_8 : decode cX6_likeliest 8 = .ok (.ifCond .ne 5, 3) := by decide +kernel
theorem dX6_likeliest_11 : decode cX6_likeliest 11 = .ok (.iconst (-1), 1) := by decide +kernel
theorem dX6_likeliest_12 : decode cX6_likeliest 12 = .ok (.ireturn, 1) := by decide +kernel
theorem dX6_likeliest_13 : decode cX6_likeliest 13 = .ok (.aload_n 0, 1) := by decide +kernel
theorem dX6_likeliest_14 : decode cX6_likeliest 14 = .ok (.getfield 57, 3) := by decide +kernel
theorem dX6_likeliest_17 : decode cX6_likeliest 17 = .ok (.aload_n 0, 1) := by decide +kernel
theorem dX6_likeliest_18 : decode cX6_likeliest 18 = .ok (.getfield 10, 3) := by decide +kernel
theorem dX6_likeliest_21 : decode cX6_likeliest 21 = .ok (.iload_n 1, 1) := by decide +kernel
theorem dX6_likeliest_22 : decode cX6_likeliest 22 = .ok (.invokevirtual 253, 3) := by decide +kernel
theorem dX6_likeliest_25 : decode cX6_likeliest 25 = .ok (.bipush (-4), 2) := by decide +kernel
theorem dX6_likeliest_27 : decode cX6_likeliest 27 = .ok (.istore_n 2, 1) := by decide +kernel
theorem dX6_likeliest_28 : decode cX6_likeliest 28 = .ok (.lconst 0, 1) := by decide +kernel
theorem dX6_likeliest_29 : decode cX6_likeliest 29 = .ok (.lstore_n 3, 1) := by decide +kernel
theorem dX6_likeliest_30 : decode cX6_likeliest 30 = .ok (.iconst 0, 1) := by decide +kernel
theorem dX6_likeliest_31 : decode cX6_likeliest 31 = .ok (.istore 5, 2) := by decide +kernel
theorem dX6_likeliest_33 : decode cX6_likeliest 33 = .ok (.iload 5, 2) := by decide +kernel
theorem dX6_likeliest_35 : decode cX6_likeliest 35 = .ok (.aload_n 0, 1) := by decide +kernel
theorem dX6_likeliest_36 : decode cX6_likeliest 36 = .ok (.getfield 10, 3) := by decide +kernel
theorem dX6_likeliest_39 : decode cX6_likeliest 39 = .ok (.getfield 210, 3) := by decide +kernel
theorem dX6_likeliest_42 : decode cX6_likeliest 42 = .ok (.if_icmp .ge 38, 3) := by decide +kernel
theorem dX6_likeliest_45 : decode cX6_likeliest 45 = .ok (.aload_n 0, 1) := by decide +kernel
theorem dX6_likeliest_46 : decode cX6_likeliest 46 = .ok (.getfield 57, 3) := by decide +kernel
theorem dX6_likeliest_49 : decode cX6_likeliest 49 = .ok (.getfield 257, 3) := by decide +kernel
theorem dX6_likeliest_52 : decode cX6_likeliest 52 = .ok (.iload 5, 2) := by decide +kernel
theorem dX6_likeliest_54 : decode cX6_likeliest 54 = .ok (.laload, 1) := by decide +kernel
theorem dX6_likeliest_55 : decode cX6_likeliest 55 = .ok (.lload_n 3, 1) := by decide +kernel
theorem dX6_likeliest_56 : decode cX6_likeliest 56 = .ok (.lcmp, 1) := by decide +kernel
theorem dX6_likeliest_57 : decode cX6_likeliest 57 = .ok (.ifCond .le 17, 3) := by decide +kernel
theorem dX6_likeliest_60 : decode cX6_likeliest 60 = .ok (.aload_n 0, 1) := by decide +kernel
theorem dX6_likeliest_61 : decode cX6_likeliest 61 = .ok (.getfield 57, 3) := by decide +kernel
theorem dX6_likeliest_64 : decode cX6_likeliest 64 = .ok (.getfield 257, 3) := by decide +kernel
theorem dX6_likeliest_67 : decode cX6_likeliest 67 = .ok (.iload 5, 2) := by decide +kernel
theorem dX6_likeliest_69 : decode cX6_likeliest 69 = .ok (.laload, 1) := by decide +kernel
theorem dX6_likeliest_70 : decode cX6_likeliest 70 = .ok (.lstore_n 3, 1) := by decide +kernel
theorem dX6_likeliest_71 : decode cX6_likeliest 71 = .ok (.iload 5, 2) := by decide +kernel
theorem dX6_likeliest_73 : decode cX6_likeliest 73 = .ok (.istore_n 2, 1) := by decide +kernel
theorem dX6_likeliest_74 : decode cX6_likeliest 74 = .ok (.iinc 5 1, 3) := by decide +kernel
theorem dX6_likeliest_77 : decode cX6_likeliest 77 = .ok (.goto (-44), 3) := by decide +kernel
theorem dX6_likeliest_80 : decode cX6_likeliest 80 = .ok (.iload_n 2, 1) := by decide +kernel
theorem dX6_likeliest_81 : decode cX6_likeliest 81 = .ok (.ireturn, 1) := by decide +kernel
abbrev rm_X6_likeliest : Room := { frames := 6, cells := 0, slots := 0, locals := 144 }
theorem t_b_X6_likeliest_33 {G : oa_G} {O : oa_O} {A : Nat → Prop} {a : Nat → Nat} {res : Int32 × oa_J2} (C : oa_C G cX6_likeliest 6 RX6 (some .int) rm_X6_likeliest O A) (B : oa_I3) (x1 : Int32) (J : oa_J2)   (k33 : Int32 → Int64 → Int32 → Option (Int32 × oa_J2))  (hk33 : ∀ (b_x2 : Int32) (b_x3 : Int64) (b_x5 : Int32), k33 b_x2 b_x3 b_x5 = some res → ww G 6 O A (oa_Q G O A (0, 0) (some (.int res.1)) (fun W1 => W1 = wd_O O a B res.2)) (0, 0) 33 [(0, .ref (a 0)), (2, .int b_x2), (3, .long b_x3), (5, .int b_x5)] [] (wd_O O a B J)) (x2 : Int32) (x3 : Int64) (x5 : Int32) (hf : b_X6_likeliest_33 B x1 J k33 x2 x3 x5 = some res) : ww G 6 O A (oa_Q G O A (0, 0) (some (.int res.1)) (fun W1 => W1 = wd_O O a B res.2)) (0, 0) 33 [(0, .ref (a 0)), (2, .int x2), (3, .long x3), (5, .int x5)] [] (wd_O O a B J) := by
  delta b_X6_likeliest_33 at hf
  refine ww_iload (pc := 33) (i := 5) C 3 dX6_likeliest_33 rfl ?_
  refine ww_aload_n (pc := 35) (i := 0) C 0 dX6_likeliest_35 rfl rfl ?_
  refine ww_get (pc := 36) C fl_X6_10 0 rfl rfl dX6_likeliest_36 ?_
  refine ww_get (pc := 39) C fl_X6_210 1 rfl rfl dX6_likeliest_39 ?_
  refine ww_icmp_ge (pc := 42) (tgt := 80) C dX6_likeliest_42 (by decide) (fun c8 => ?_) (fun c8 => ?_)
  · have hf := oa_ifp c8 hf
    refine ww_iload_n (pc := 80) (i := 2) C 1 dX6_likeliest_80 rfl rfl ?_
    obtain rfl := Option.some.inj hf
    exact ww_iret (pc := 81) C rfl dX6_likeliest_81
  · have hf := oa_ifn c8 hf
    refine ww_aload_n (pc := 45) (i := 0) C 0 dX6_likeliest_45 rfl rfl ?_
    refine ww_get (pc := 46) C fl_X6_57 0 rfl rfl dX6_likeliest_46 ?_
    refine ww_get (pc := 49) C fl_X6_257 28 rfl rfl dX6_likeliest_49 ?_
    refine ww_iload (pc := 52) (i := 5) C 3 dX6_likeliest_52 rfl ?_
    obtain ⟨y9, e10, hf⟩ := oa_bind hf
    refine ww_lald (pc := 54) C 29 rfl e10 dX6_likeliest_54 ?_
    refine ww_lload_n (pc := 55) (i := 3) C 2 dX6_likeliest_55 rfl rfl ?_
    refine ww_lcmp (pc := 56) C dX6_likeliest_56 ?_
    refine ww_if_le (pc := 57) (tgt := 74) C dX6_likeliest_57 (by decide) (fun c11 => ?_) (fun c11 => ?_)
    · have hf := oa_ifp c11 hf
      refine ww_iinc (pc := 74) (v := (x5 + 1)) (L' := [(0, .ref (a 0)), (2, .int x2), (3, .long x3), (5, .int (x5 + 1))]) C 3 [1, 2, 3, 0] dX6_likeliest_74 rfl (ki_1 _) (Nat.le_of_ble_eq_true rfl) rfl ?_
      refine ww_goto (pc := 77) (tgt := 33) C dX6_likeliest_77 (by decide) ?_
      exact hk33 x2 x3 (x5 + 1) hf
    · have hf := oa_ifn c11 hf
      refine ww_aload_n (pc := 60) (i := 0) C 0 dX6_likeliest_60 rfl rfl ?_
      refine ww_get (pc := 61) C fl_X6_57 0 rfl rfl dX6_likeliest_61 ?_
      refine ww_get (pc := 64) C fl_X6_257 28 rfl rfl dX6_likeliest_64 ?_
      refine ww_iload (pc := 67) (i := 5) C 3 dX6_likeliest_67 rfl ?_
      obtain ⟨y12, e13, hf⟩ := oa_bind hf
      refine ww_lald (pc := 69) C 29 rfl e13 dX6_likeliest_69 ?_
      refine ww_lstore_n (pc := 70) (L' := [(0, .ref (a 0)), (2, .int x2), (3, .long y12), (5, .int x5)]) C [1, 2, 0, 3] dX6_likeliest_70 rfl (Nat.le_of_ble_eq_true rfl) rfl ?_
      refine ww_iload (pc := 71) (i := 5) C 3 dX6_likeliest_71 rfl ?_
      refine ww_istore_n (pc := 73) (L' := [(0, .ref (a 0)), (2, .int x5), (3, .long y12), (5, .int x5)]) C [1, 0, 2, 3] dX6_likeliest_73 rfl (Nat.le_of_ble_eq_true rfl) rfl ?_
      refine ww_iinc (pc := 74) (v := (x5 + 1)) (L' := [(0, .ref (a 0)), (2, .int x5), (3, .long y12), (5, .int (x5 + 1))]) C 3 [1, 2, 3, 0] dX6_likeliest_74 rfl (ki_1 _) (Nat.le_of_ble_eq_true rfl) rfl ?_
      refine ww_goto (pc := 77) (tgt := 33) C dX6_likeliest_77 (by decide) ?_
      exact hk33 x5 y12 (x5 + 1) hf
theorem t_l_X6_likeliest_33 {G : oa_G} {O : oa_O} {A : Nat → Prop} {a : Nat → Nat} {res : Int32 × oa_J2} (C : oa_C G cX6_likeliest 6 RX6 (some .int) rm_X6_likeliest O A) (B : oa_I3) (x1 : Int32) (J : oa_J2)   : ∀ (n : Nat) (x2 : Int32) (x3 : Int64) (x5 : Int32), l_X6_likeliest_33 B x1 J n x2 x3 x5 = some res → ww G 6 O A (oa_Q G O A (0, 0) (some (.int res.1)) (fun W1 => W1 = wd_O O a B res.2)) (0, 0) 33 [(0, .ref (a 0)), (2, .int x2), (3, .long x3), (5, .int x5)] [] (wd_O O a B J) := by
  intro n
  induction n with
  | zero => intro x2 x3 x5 hf; exact absurd (show (none : Option (Int32 × oa_J2)) = some res from hf) (fun h => nomatch h)
  | succ n ih =>
    intro x2 x3 x5 hf
    exact t_b_X6_likeliest_33 C B x1 J (fun x2 x3 x5 => l_X6_likeliest_33 B x1 J n x2 x3 x5)  (fun x2 x3 x5 h => ih x2 x3 x5 h) x2 x3 x5 hf
theorem m_X6_likeliest (l : Launch) (O : oa_O) (a : Nat → Nat) (B : oa_I3) (J : oa_J2) (x1 : Int32) (res : Int32 × oa_J2) (hf : f_X6_likeliest B J x1 = some res) : oa_M l yX6_likeliest cX6_likeliest 6 (some .int) rm_X6_likeliest O [.ref (a 0), .int x1] (wd_O O a B J) (some (.int res.1)) (fun W1 => W1 = wd_O O a B res.2) := by
  refine oa_Mof (by decide) (Nat.le_of_ble_eq_true rfl) (fun G A hl C => ?_)
  subst hl
  have C : oa_C G cX6_likeliest 6 RX6 (some .int) rm_X6_likeliest O A := C
  have hf : f_X6_likeliest B J x1 = some res := hf
  delta f_X6_likeliest at hf
  show ww G 6 O A (oa_Q G O A (0, 0) (some (.int res.1)) (fun W1 => W1 = wd_O O a B res.2)) (0, 0) 0 [(0, .ref (a 0)), (1, .int x1)] [] (wd_O O a B J)
  refine ww_aload_n (pc := 0) (i := 0) C 0 dX6_likeliest_0 rfl rfl ?_
  refine ww_get (pc := 1) C fl_X6_10 0 rfl rfl dX6_likeliest_1 ?_
  refine ww_iload_n (pc := 4) (i := 1) C 1 dX6_likeliest_4 rfl rfl ?_
  obtain ⟨y1, e2, hf⟩ := oa_bind hf
  refine ww_callV (pc := 5) (As := [.int x1]) (rest := []) (wd := wd_V O (fun i => a (i + 1)) (B 0)) (ws' := wd_O O a B J) (rv := (some (.int y1))) C hY_X5_has hV_X5_has lk_X6_104 (m_X5_has _ O (fun i => a (i + 1)) (B 0) x1 _ e2) [1, 2, 3, 4, 5, 6] 1 rfl rfl rfl rfl rfl (oa_putS _ _ _ rfl) (fun _ h => h) ⟨rfl, rfl⟩ ⟨Nat.zero_le _, Nat.zero_le _⟩ ⟨Nat.le_of_ble_eq_true rfl, Nat.le_of_ble_eq_true rfl⟩ rfl (Nat.le_of_ble_eq_true rfl) rfl rfl dX6_likeliest_5 ?_
  refine ww_if_ne (pc := 8) (tgt := 13) C dX6_likeliest_8 (by decide) (fun c4 => ?_) (fun c4 => ?_)
  · have hf := oa_ifn c4 hf
    refine ww_aload_n (pc := 13) (i := 0) C 0 dX6_likeliest_13 rfl rfl ?_
    refine ww_get (pc := 14) C fl_X6_57 0 rfl rfl dX6_likeliest_14 ?_
    refine ww_aload_n (pc := 17) (i := 0) C 0 dX6_likeliest_17 rfl rfl ?_
    refine ww_get (pc := 18) C fl_X6_10 0 rfl rfl dX6_likeliest_18 ?_
    refine ww_iload_n (pc := 21) (i := 1) C 1 dX6_likeliest_21 rfl rfl ?_
    obtain ⟨J5, e6, hf⟩ := oa_bind hf
    refine ww_callV (pc := 22) (As := [.ref (a 1), .int x1]) (rest := []) (wd := wd_HV O (fun i => a (i + 28)) (fun i => a (i + 1)) J5 (B 0)) (ws' := wd_O O a B J5) (rv := none) C hY_X0_weigh hV_X0_weigh lk_X6_253 (m_X0_weigh _ O (fun i => a (i + 28)) (fun i => a (i + 1)) J (B 0) x1 _ e6) [28, 29, 1, 2, 3, 4, 5, 6] 28 rfl rfl rfl rfl rfl rfl (fun _ h => h) ⟨rfl, rfl⟩ ⟨Nat.zero_le _, Nat.zero_le _⟩ ⟨Nat.le_of_ble_eq_true rfl, Nat.le_of_ble_eq_true rfl⟩ rfl (Nat.le_of_ble_eq_true rfl) rfl rfl dX6_likeliest_22 ?_
    refine ww_bipush (pc := 25) C dX6_likeliest_25 kb_m4 ?_
    refine ww_istore_n (pc := 27) (L' := [(0, .ref (a 0)), (1, .int x1), (2, .int (-4))]) C [1, 2, 0] dX6_likeliest_27 rfl (Nat.le_of_ble_eq_true rfl) rfl ?_
    refine ww_lconst (pc := 28) C dX6_likeliest_28 kl_0 ?_
    refine ww_lstore_n (pc := 29) (L' := [(0, .ref (a 0)), (1, .int x1), (2, .int (-4)), (3, .long 0)]) C [1, 2, 3, 0] dX6_likeliest_29 rfl (Nat.le_of_ble_eq_true rfl) rfl ?_
    refine ww_iconst (pc := 30) C dX6_likeliest_30 kc_0 ?_
    refine ww_istore (pc := 31) (L' := [(0, .ref (a 0)), (1, .int x1), (2, .int (-4)), (3, .long 0), (5, .int 0)]) C [1, 2, 3, 4, 0] dX6_likeliest_31 (Nat.le_of_ble_eq_true rfl) rfl ?_
    refine ww_sub C [0, 2, 3, 4] rfl ?_
    exact t_l_X6_likeliest_33 C B x1 J5   oa_fu (-4) 0 0 hf
  · have hf := oa_ifp c4 hf
    refine ww_iconst (pc := 11) C dX6_likeliest_11 kc_m1 ?_
    obtain rfl := Option.some.inj hf
    exact ww_iret (pc := 12) C rfl dX6_likeliest_12
theorem dX6_mean_0 : decode cX6_mean 0 = .ok (.aload_n 0, 1) := by decide +kernel
theorem dX6_mean_1 : decode cX6_mean 1 = .ok (.getfield 10, 3) := by decide +kernel
theorem dX6_mean_4 : decode cX6_mean 4 = .ok (.iload_n 1, 1) := by decide +kernel
theorem dX6_mean_5 : decode cX6_mean 5 = .ok (.invokevirtual 104, 3) := by decide +kernel
theorem dX6_mean_8 : decode cX6_mean 8 = .ok (.ifCond .eq 12, 3) := by decide +kernel
theorem dX6_mean_11 : decode cX6_mean 11 = .ok (.iload_n 2, 1) := by decide +kernel
theorem dX6_mean_12 : decode cX6_mean 12 = .ok (.iconst 0, 1) := by decide +kernel
theorem dX6_mean_13 : decode cX6_mean 13 = .ok (.iconst 1, 1) := by decide +kernel
theorem dX6_mean_14 : decode cX6_mean 14 = .ok (.invokestatic 96, 3) := by decide +kernel
theorem dX6_mean_17 : decode cX6_mean 17 = .ok (.ifCond .ne 7, 3) := by decide +kernel
theorem dX6_mean_20 : decode cX6_mean 20 = .ok (.ldc2_w 269, 3) := by decide +kernel
theorem dX6_mean_23 : decode cX6_mean 23 = .ok (.lreturn, 1) := by decide +kernel
theorem dX6_mean_24 : decode cX6_mean 24 = .ok (.aload_n 0, 1) := by decide +kernel
theorem dX6_mean_25 : decode cX6_mean 25 = .ok (.getfield 57, 3) := by decide +kernel
theorem dX6_mean_28 : decode cX6_mean 28 = .ok (.aload_n 0, 1) := by decide +kernel
theorem dX6_mean_29 : decode cX6_mean 29 = .ok (.getfield 10, 3) := by decide +kernel
theorem dX6_mean_32 : decode cX6_mean 32 = .ok (.iload_n 1, 1) := by decide +kernel
theorem dX6_mean_33 : decode cX6_mean 33 = .ok (.invokevirtual 253, 3) := by decide +kernel
theorem dX6_mean_36 : decode cX6_mean 36 = .ok (.aload_n 0, 1) := by decide +kernel
theorem dX6_mean_37 : decode cX6_mean 37 = .ok (.getfield 10, 3) := by decide +kernel
theorem dX6_mean_40 : decode cX6_mean 40 = .ok (.iload_n 1, 1) := by decide +kernel
theorem dX6_mean_41 : decode cX6_mean 41 = .ok (.invokevirtual 158, 3) := by decide +kernel
theorem dX6_mean_44 : decode cX6_mean 44 = .ok (.istore_n 3, 1) := by decide +kernel
theorem dX6_mean_45 : decode cX6_mean 45 = .ok (.lconst 0, 1) := by decide +kernel
theorem dX6_mean_46 : decode cX6_mean 46 = .ok (.lstore 4, 2) := by decide +kernel
theorem dX6_mean_48 : decode cX6_mean 48 = .ok (.iconst 0, 1) := by decide +kernel
theorem dX6_mean_49 : decode cX6_mean 49 = .ok (.istore 6, 2) := by decide +kernel
theorem dX6_mean_51 : decode cX6_mean 51 = .ok (.iload 6, 2) := by decide +kernel
theorem dX6_mean_53 : decode cX6_mean 53 = .ok (.aload_n 0, 1) := by decide +kernel
theorem dX6_mean_54 : decode cX6_mean 54 = .ok (.getfield 10, 3) := by decide +kernel
theorem dX6_mean_57 : decode cX6_mean 57 = .ok (.getfield 210, 3) := by decide +kernel
theorem dX6_mean_60 : decode cX6_mean 60 = .ok (.if_icmp .ge 36, 3) := by decide +kernel
theorem dX6_mean_63 : decode cX6_mean 63 = .ok (.lload 4, 2) := by decide +kernel
theorem dX6_mean_65 : decode cX6_mean 65 = .ok (.aload_n 0, 1) := by decide +kernel
theorem dX6_mean_66 : decode cX6_mean 66 = .ok (.getfield 57, 3) := by decide +kernel
theorem dX6_mean_69 : decode cX6_mean 69 = .ok (.getfield 257, 3) := by decide +kernel
theorem dX6_mean_72 : decode cX6_mean 72 = .ok (.iload 6, 2) := by decide +kernel
theorem dX6_mean_74 : decode cX6_mean 74 = .ok (.laload, 1) := by decide +kernel
theorem dX6_mean_75 : decode cX6_mean 75 = .ok (.aload_n 0, 1) := by decide +kernel
theorem dX6_mean_76 : decode cX6_mean 76 = .ok (.getfield 10, 3) := by decide +kernel
theorem dX6_mean_79 : decode cX6_mean 79 = .ok (.iload 6, 2) := by decide +kernel
theorem dX6_mean_81 : decode cX6_mean 81 = .ok (.iload_n 3, 1) := by decide +kernel
theorem dX6_mean_82 : decode cX6_mean 82 = .ok (.invokevirtual 167, 3) := by decide +kernel
theorem dX6_mean_85 : decode cX6_mean 85 = .ok (.i2l, 1) := by decide +kernel
theorem dX6_mean_86 : decode cX6_mean 86 = .ok (.lmul, 1) := by decide +kernel
theorem dX6_mean_87 : decode cX6_mean 87 = .ok (.ladd, 1) := by decide +kernel
theorem dX6_mean_88 : decode cX6_mean 88 = .ok (.lstore 4, 2) := by decide +kernel
theorem dX6_mean_90 : decode cX6_mean 90 = .ok (.iinc 6 1, 3) := by decide +kernel
theorem dX6_mean_93 : decode cX6_mean 93 = .ok (.goto (-42), 3) := by decide +kernel
theorem dX6_mean_96 : decode cX6_mean 96 = .ok (.lload 4, 2) := by decide +kernel
theorem dX6_mean_98 : decode cX6_mean 98 = .ok (.aload_n 0, 1) := by decide +kernel
theorem dX6_mean_99 : decode cX6_mean 99 = .ok (.getfield 57, 3) := by decide +kernel
theorem dX6_mean_102 : decode cX6_mean 102 = .ok (.getfield 261, 3) := by decide +kernel
theorem dX6_mean_105 : decode cX6_mean 105 = .ok (.iload_n 2, 1) := by decide +kernel
theorem dX6_mean_106 : decode cX6_mean 106 = .ok (.invokestatic 265, 3) := by decide +kernel
theorem dX6_mean_109 : decode cX6_mean 109 = .ok (.lreturn, 1) := by decide +kernel
abbrev rm_X6_mean : Room := { frames := 6, cells := 0, slots := 0, locals := 144 }
theorem t_b_X6_mean_51 {G : oa_G} {O : oa_O} {A : Nat → Prop} {a : Nat → Nat} {res : Int64 × oa_J2} (C : oa_C G cX6_mean 7 RX6 (some .long) rm_X6_mean O A) (B : oa_I3) (x1 : Int32) (x2 : Int32) (J : oa_J2) (x3 : Int32)   (k51 : Int64 → Int32 → Option (Int64 × oa_J2))  (hk51 : ∀ (b_x4 : Int64) (b_x6 : Int32), k51 b_x4 b_x6 = some res → ww G 7 O A (oa_Q G O A (0, 0) (some (.long res.1)) (fun W1 => W1 = wd_O O a B res.2)) (0, 0) 51 [(0, .ref (a 0)), (2, .int x2), (3, .int x3), (4, .long b_x4), (6, .int b_x6)] [] (wd_O O a B J)) (x4 : Int64) (x6 : Int32) (hf : b_X6_mean_51 B x1 x2 J x3 k51 x4 x6 = some res) : ww G 7 O A (oa_Q G O A (0, 0) (some (.long res.1)) (fun W1 => W1 = wd_O O a B res.2)) (0, 0) 51 [(0, .ref (a 0)), (2, .int x2), (3, .int x3), (4, .long x4), (6, .int x6)] [] (wd_O O a B J) := by
  delta b_X6_mean_51 at hf
  refine ww_iload (pc := 51) (i := 6) C 4 dX6_mean_51 rfl ?_
  refine ww_aload_n (pc := 53) (i := 0) C 0 dX6_mean_53 rfl rfl ?_
  refine ww_get (pc := 54) C fl_X6_10 0 rfl rfl dX6_mean_54 ?_
  refine ww_get (pc := 57) C fl_X6_210 1 rfl rfl dX6_mean_57 ?_
  refine ww_icmp_ge (pc := 60) (tgt := 96) C dX6_mean_60 (by decide) (fun c15 => ?_) (fun c15 => ?_)
  · have hf := oa_ifp c15 hf
    refine ww_lload (pc := 96) (i := 4) C 3 dX6_mean_96 rfl ?_
    refine ww_aload_n (pc := 98) (i := 0) C 0 dX6_mean_98 rfl rfl ?_
    refine ww_get (pc := 99) C fl_X6_57 0 rfl rfl dX6_mean_99 ?_
    refine ww_get (pc := 102) C fl_X6_261 28 rfl rfl dX6_mean_102 ?_
    refine ww_iload_n (pc := 105) (i := 2) C 1 dX6_mean_105 rfl rfl ?_
    obtain ⟨y16, e17, hf⟩ := oa_bind hf
    refine ww_callS (pc := 106) (As := [.long x4, .long (J 1 0), .int x2]) (rest := []) (wd := []) (ws' := wd_O O a B J) (rv := (some (.long y16))) C hY_X6_inLowestTerms hS_X6_inLowestTerms lk_X6_265 (m_X6_inLowestTerms _ O  x4 (J 1 0) x2 _ e17) [] rfl rfl rfl (oa_putS _ _ _ rfl) (fun _ h => h) ⟨rfl, rfl⟩ ⟨Nat.zero_le _, Nat.zero_le _⟩ ⟨Nat.le_of_ble_eq_true rfl, Nat.le_of_ble_eq_true rfl⟩ rfl (Nat.le_of_ble_eq_true rfl) rfl rfl dX6_mean_106 ?_
    obtain rfl := Option.some.inj hf
    exact ww_lret (pc := 109) C rfl dX6_mean_109
  · have hf := oa_ifn c15 hf
    refine ww_lload (pc := 63) (i := 4) C 3 dX6_mean_63 rfl ?_
    refine ww_aload_n (pc := 65) (i := 0) C 0 dX6_mean_65 rfl rfl ?_
    refine ww_get (pc := 66) C fl_X6_57 0 rfl rfl dX6_mean_66 ?_
    refine ww_get (pc := 69) C fl_X6_257 28 rfl rfl dX6_mean_69 ?_
    refine ww_iload (pc := 72) (i := 6) C 4 dX6_mean_72 rfl ?_
    obtain ⟨y19, e20, hf⟩ := oa_bind hf
    refine ww_lald (pc := 74) C 29 rfl e20 dX6_mean_74 ?_
    refine ww_aload_n (pc := 75) (i := 0) C 0 dX6_mean_75 rfl rfl ?_
    refine ww_get (pc := 76) C fl_X6_10 0 rfl rfl dX6_mean_76 ?_
    refine ww_iload (pc := 79) (i := 6) C 4 dX6_mean_79 rfl ?_
    refine ww_iload_n (pc := 81) (i := 3) C 2 dX6_mean_81 rfl rfl ?_
    obtain ⟨y21, e22, hf⟩ := oa_bind hf
    refine ww_callV (pc := 82) (As := [.int x6, .int x3]) (rest := [.long y19, .long x4]) (wd := wd_V O (fun i => a (i + 1)) (B 0)) (ws' := wd_O O a B J) (rv := (some (.int y21))) C hY_X5_value hV_X5_value lk_X6_167 (m_X5_value _ O (fun i => a (i + 1)) (B 0) x6 x3 _ e22) [1, 2, 3, 4, 5, 6] 1 rfl rfl rfl rfl rfl (oa_putS _ _ _ rfl) (fun _ h => h) ⟨rfl, rfl⟩ ⟨Nat.zero_le _, Nat.zero_le _⟩ ⟨Nat.le_of_ble_eq_true rfl, Nat.le_of_ble_eq_true rfl⟩ rfl (Nat.le_of_ble_eq_true rfl) rfl rfl dX6_mean_82 ?_
    refine ww_i2l (pc := 85) C dX6_mean_85 ?_
    refine ww_lmul (pc := 86) C dX6_mean_86 ?_
    refine ww_ladd (pc := 87) C dX6_mean_87 ?_
    obtain ⟨y24, e25, hf⟩ := oa_letE hf
    refine ww_topl C e25 ?_
    refine ww_lstore (pc := 88) (L' := [(0, .ref (a 0)), (2, .int x2), (3, .int x3), (4, .long y24), (6, .int x6)]) C [1, 2, 3, 0, 4] dX6_mean_88 (Nat.le_of_ble_eq_true rfl) rfl ?_
    refine ww_iinc (pc := 90) (v := (x6 + 1)) (L' := [(0, .ref (a 0)), (2, .int x2), (3, .int x3), (4, .long y24), (6, .int (x6 + 1))]) C 4 [1, 2, 3, 4, 0] dX6_mean_90 rfl (ki_1 _) (Nat.le_of_ble_eq_true rfl) rfl ?_
    refine ww_goto (pc := 93) (tgt := 51) C dX6_mean_93 (by decide) ?_
    exact hk51 y24 (x6 + 1) hf
theorem t_l_X6_mean_51 {G : oa_G} {O : oa_O} {A : Nat → Prop} {a : Nat → Nat} {res : Int64 × oa_J2} (C : oa_C G cX6_mean 7 RX6 (some .long) rm_X6_mean O A) (B : oa_I3) (x1 : Int32) (x2 : Int32) (J : oa_J2) (x3 : Int32)   : ∀ (n : Nat) (x4 : Int64) (x6 : Int32), l_X6_mean_51 B x1 x2 J x3 n x4 x6 = some res → ww G 7 O A (oa_Q G O A (0, 0) (some (.long res.1)) (fun W1 => W1 = wd_O O a B res.2)) (0, 0) 51 [(0, .ref (a 0)), (2, .int x2), (3, .int x3), (4, .long x4), (6, .int x6)] [] (wd_O O a B J) := by
  intro n
  induction n with
  | zero => intro x4 x6 hf; exact absurd (show (none : Option (Int64 × oa_J2)) = some res from hf) (fun h => nomatch h)
  | succ n ih =>
    intro x4 x6 hf
    exact t_b_X6_mean_51 C B x1 x2 J x3 (fun x4 x6 => l_X6_mean_51 B x1 x2 J x3 n x4 x6)  (fun x4 x6 h => ih x4 x6 h) x4 x6 hf
theorem m_X6_mean (l : Launch) (O : oa_O) (a : Nat → Nat) (B : oa_I3) (J : oa_J2) (x1 : Int32) (x2 : Int32) (res : Int64 × oa_J2) (hf : f_X6_mean B J x1 x2 = some res) : oa_M l yX6_mean cX6_mean 7 (some .long) rm_X6_mean O [.ref (a 0), .int x1, .int x2] (wd_O O a B J) (some (.long res.1)) (fun W1 => W1 = wd_O O a B res.2) := by
  refine oa_Mof (by decide) (Nat.le_of_ble_eq_true rfl) (fun G A hl C => ?_)
  subst hl
  have C : oa_C G cX6_mean 7 RX6 (some .long) rm_X6_mean O A := C
  have hf : f_X6_mean B J x1 x2 = some res := hf
  delta f_X6_mean at hf
  show ww G 7 O A (oa_Q G O A (0, 0) (some (.long res.1)) (fun W1 => W1 = wd_O O a B res.2)) (0, 0) 0 [(0, .ref (a 0)), (1, .int x1), (2, .int x2)] [] (wd_O O a B J)
  refine ww_aload_n (pc := 0) (i := 0) C 0 dX6_mean_0 rfl rfl ?_
  refine ww_get (pc := 1) C fl_X6_10 0 rfl rfl dX6_mean_1 ?_
  refine ww_iload_n (pc := 4) (i := 1) C 1 dX6_mean_4 rfl rfl ?_
  obtain ⟨y1, e2, hf⟩ := oa_bind hf
  refine ww_callV (pc := 5) (As := [.int x1]) (rest := []) (wd := wd_V O (fun i => a (i + 1)) (B 0)) (ws' := wd_O O a B J) (rv := (some (.int y1))) C hY_X5_has hV_X5_has lk_X6_104 (m_X5_has _ O (fun i => a (i + 1)) (B 0) x1 _ e2) [1, 2, 3, 4, 5, 6] 1 rfl rfl rfl rfl rfl (oa_putS _ _ _ rfl) (fun _ h => h) ⟨rfl, rfl⟩ ⟨Nat.zero_le _, Nat.zero_le _⟩ ⟨Nat.le_of_ble_eq_true rfl, Nat.le_of_ble_eq_true rfl⟩ rfl (Nat.le_of_ble_eq_true rfl) rfl rfl dX6_mean_5 ?_
  refine ww_if_eq (pc := 8) (tgt := 20) C dX6_mean_8 (by decide) (fun c4 => ?_) (fun c4 => ?_)
  · have hf := oa_ifp c4 hf
    refine ww_ldc2 (pc := 20) C cw_X6_269 dX6_mean_20 ?_
    obtain rfl := Option.some.inj hf
    exact ww_lret (pc := 23) C rfl dX6_mean_23
  · have hf := oa_ifn c4 hf
    refine ww_iload_n (pc := 11) (i := 2) C 2 dX6_mean_11 rfl rfl ?_
    refine ww_iconst (pc := 12) C dX6_mean_12 kc_0 ?_
    refine ww_iconst (pc := 13) C dX6_mean_13 kc_1 ?_
    obtain ⟨y5, e6, hf⟩ := oa_bind hf
    refine ww_callS (pc := 14) (As := [.int x2, .int 0, .int 1]) (rest := []) (wd := []) (ws' := wd_O O a B J) (rv := (some (.int y5))) C hY_X6_within hS_X6_within lk_X6_96 (m_X6_within _ O  x2 0 1 _ e6) [] rfl rfl rfl (oa_putS _ _ _ rfl) (fun _ h => h) ⟨rfl, rfl⟩ ⟨Nat.zero_le _, Nat.zero_le _⟩ ⟨Nat.le_of_ble_eq_true rfl, Nat.le_of_ble_eq_true rfl⟩ rfl (Nat.le_of_ble_eq_true rfl) rfl rfl dX6_mean_14 ?_
    refine ww_if_ne (pc := 17) (tgt := 24) C dX6_mean_17 (by decide) (fun c8 => ?_) (fun c8 => ?_)
    · have hf := oa_ifn c8 hf
      refine ww_aload_n (pc := 24) (i := 0) C 0 dX6_mean_24 rfl rfl ?_
      refine ww_get (pc := 25) C fl_X6_57 0 rfl rfl dX6_mean_25 ?_
      refine ww_aload_n (pc := 28) (i := 0) C 0 dX6_mean_28 rfl rfl ?_
      refine ww_get (pc := 29) C fl_X6_10 0 rfl rfl dX6_mean_29 ?_
      refine ww_iload_n (pc := 32) (i := 1) C 1 dX6_mean_32 rfl rfl ?_
      obtain ⟨J9, e10, hf⟩ := oa_bind hf
      refine ww_callV (pc := 33) (As := [.ref (a 1), .int x1]) (rest := []) (wd := wd_HV O (fun i => a (i + 28)) (fun i => a (i + 1)) J9 (B 0)) (ws' := wd_O O a B J9) (rv := none) C hY_X0_weigh hV_X0_weigh lk_X6_253 (m_X0_weigh _ O (fun i => a (i + 28)) (fun i => a (i + 1)) J (B 0) x1 _ e10) [28, 29, 1, 2, 3, 4, 5, 6] 28 rfl rfl rfl rfl rfl rfl (fun _ h => h) ⟨rfl, rfl⟩ ⟨Nat.zero_le _, Nat.zero_le _⟩ ⟨Nat.le_of_ble_eq_true rfl, Nat.le_of_ble_eq_true rfl⟩ rfl (Nat.le_of_ble_eq_true rfl) rfl rfl dX6_mean_33 ?_
      refine ww_aload_n (pc := 36) (i := 0) C 0 dX6_mean_36 rfl rfl ?_
      refine ww_get (pc := 37) C fl_X6_10 0 rfl rfl dX6_mean_37 ?_
      refine ww_iload_n (pc := 40) (i := 1) C 1 dX6_mean_40 rfl rfl ?_
      obtain ⟨y12, e13, hf⟩ := oa_bind hf
      refine ww_callV (pc := 41) (As := [.int x1]) (rest := []) (wd := wd_V O (fun i => a (i + 1)) (B 0)) (ws' := wd_O O a B J9) (rv := (some (.int y12))) C hY_X5_able hV_X5_able lk_X6_158 (m_X5_able _ O (fun i => a (i + 1)) (B 0) x1 _ e13) [1, 2, 3, 4, 5, 6] 1 rfl rfl rfl rfl rfl (oa_putS _ _ _ rfl) (fun _ h => h) ⟨rfl, rfl⟩ ⟨Nat.zero_le _, Nat.zero_le _⟩ ⟨Nat.le_of_ble_eq_true rfl, Nat.le_of_ble_eq_true rfl⟩ rfl (Nat.le_of_ble_eq_true rfl) rfl rfl dX6_mean_41 ?_
      refine ww_istore_n (pc := 44) (L' := [(0, .ref (a 0)), (1, .int x1), (2, .int x2), (3, .int y12)]) C [1, 2, 3, 0] dX6_mean_44 rfl (Nat.le_of_ble_eq_true rfl) rfl ?_
      refine ww_lconst (pc := 45) C dX6_mean_45 kl_0 ?_
      refine ww_lstore (pc := 46) (L' := [(0, .ref (a 0)), (1, .int x1), (2, .int x2), (3, .int y12), (4, .long 0)]) C [1, 2, 3, 4, 0] dX6_mean_46 (Nat.le_of_ble_eq_true rfl) rfl ?_
      refine ww_iconst (pc := 48) C dX6_mean_48 kc_0 ?_
      refine ww_istore (pc := 49) (L' := [(0, .ref (a 0)), (1, .int x1), (2, .int x2), (3, .int y12), (4, .long 0), (6, .int 0)]) C [1, 2, 3, 4, 5, 0] dX6_mean_49 (Nat.le_of_ble_eq_true rfl) rfl ?_
      refine ww_sub C [0, 2, 3, 4, 5] rfl ?_
      exact t_l_X6_mean_51 C B x1 x2 J9 y12   oa_fu 0 0 hf
    · have hf := oa_ifp c8 hf
      refine ww_ldc2 (pc := 20) C cw_X6_269 dX6_mean_20 ?_
      obtain rfl := Option.some.inj hf
      exact ww_lret (pc := 23) C rfl dX6_mean_23
theorem dX6_now_0 : decode cX6_now 0 = .ok (.iload_n 1, 1) := by decide +kernel
theorem dX6_now_1 : decode cX6_now 1 = .ok (.tableswitch 97 0 5 #[39, 47, 55, 63, 71, 89], 39) := by decide +kernel
theorem dX6_now_40 : decode cX6_now 40 = .ok (.aload_n 0, 1) := by decide +kernel
theorem dX6_now_41 : decode cX6_now 41 = .ok (.getfield 10, 3) := by decide +kernel
theorem dX6_now_44 : decode cX6_now 44 = .ok (.getfield 179, 3) := by decide +kernel
theorem dX6_now_47 : decode cX6_now 47 = .ok (.ireturn, 1) := by decide +kernel
theorem dX6_now_48 : decode cX6_now 48 = .ok (.aload_n 0, 1) := by decide +kernel
theorem dX6_now_49 : decode cX6_now 49 = .ok (.getfield 10, 3) := by decide +kernel
theorem dX6_now_52 : decode cX6_now 52 = .ok (.getfield 182, 3) := by decide +kernel
theorem dX6_now_55 : decode cX6_now 55 = .ok (.ireturn, 1) := by decide +kernel
theorem dX6_now_56 : decode cX6_now 56 = .ok (.aload_n 0, 1) := by decide +kernel
theorem dX6_now_57 : decode cX6_now 57 = .ok (.getfield 10, 3) := by decide +kernel
theorem dX6_now_60 : decode cX6_now 60 = .ok (.getfield 185, 3) := by decide +kernel
theorem dX6_now_63 : decode cX6_now 63 = .ok (.ireturn, 1) := by decide +kernel
theorem dX6_now_64 : decode cX6_now 64 = .ok (.aload_n 0, 1) := by decide +kernel
theorem dX6_now_65 : decode cX6_now 65 = .ok (.getfield 10, 3) := by decide +kernel
theorem dX6_now_68 : decode cX6_now 68 = .ok (.invokevirtual 188, 3) := by decide +kernel
theorem dX6_now_71 : decode cX6_now 71 = .ok (.ireturn, 1) := by decide +kernel
theorem dX6_now_72 : decode cX6_now 72 = .ok (.aload_n 0, 1) := by decide +kernel
theorem dX6_now_73 : decode cX6_now 73 = .ok (.getfield 10, 3) := by decide +kernel
theorem dX6_now_76 : decode cX6_now 76 = .ok (.invokevirtual 192, 3) := by decide +kernel
theorem dX6_now_79 : decode cX6_now 79 = .ok (.lconst 0, 1) := by decide +kernel
theorem dX6_now_80 : decode cX6_now 80 = .ok (.lcmp, 1) := by decide +kernel
theorem dX6_now_81 : decode cX6_now 81 = .ok (.ifCond .ne 7, 3) := by decide +kernel
theorem dX6_now_84 : decode cX6_now 84 = .ok (.iconst 1, 1) := by decide +kernel
theorem dX6_now_85 : decode cX6_now 85 = .ok (.goto 4, 3) := by decide +kernel
theorem dX6_now_88 : decode cX6_now 88 = .ok (.iconst 0, 1) := by decide +kernel
theorem dX6_now_89 : decode cX6_now 89 = .ok (.ireturn, 1) := by decide +kernel
theorem dX6_now_90 : decode cX6_now 90 = .ok (.aload_n 0, 1) := by decide +kernel
theorem dX6_now_91 : decode cX6_now 91 = .ok (.getfield 10, 3) := by decide +kernel
theorem dX6_now_94 : decode cX6_now 94 = .ok (.invokevirtual 196, 3) := by decide +kernel
theorem dX6_now_97 : decode cX6_now 97 = .ok (.ireturn, 1) := by decide +kernel
theorem dX6_now_98 : decode cX6_now 98 = .ok (.iconst (-1), 1) := by decide +kernel
theorem dX6_now_99 : decode cX6_now 99 = .ok (.ireturn, 1) := by decide +kernel
abbrev rm_X6_now : Room := { frames := 6, cells := 0, slots := 0, locals := 136 }
theorem m_X6_now (l : Launch) (O : oa_O) (a : Nat → Nat) (B : oa_I3) (J : oa_J2) (x1 : Int32) (res : Int32) (hf : f_X6_now B J x1 = some res) : oa_M l yX6_now cX6_now 2 (some .int) rm_X6_now O [.ref (a 0), .int x1] (wd_O O a B J) (some (.int res)) (fun W1 => W1 = wd_O O a B J) := by
  refine oa_Mof (by decide) (Nat.le_of_ble_eq_true rfl) (fun G A hl C => ?_)
  subst hl
  have C : oa_C G cX6_now 2 RX6 (some .int) rm_X6_now O A := C
  have hf : f_X6_now B J x1 = some res := hf
  delta f_X6_now at hf
  show ww G 2 O A (oa_Q G O A (0, 0) (some (.int res)) (fun W1 => W1 = wd_O O a B J)) (0, 0) 0 [(0, .ref (a 0)), (1, .int x1)] [] (wd_O O a B J)
  refine ww_iload_n (pc := 0) (i := 1) C 1 dX6_now_0 rfl rfl ?_
  by_cases c1 : x1 = 0
  · have hf := oa_ifp c1 hf
    refine ww_tabI (pc := 1) (tgt := 40) C dX6_now_1 (by rw [c1] <;> decide) (by rw [c1] <;> decide) (by rw [c1] <;> rfl) (by decide) ?_
    refine ww_aload_n (pc := 40) (i := 0) C 0 dX6_now_40 rfl rfl ?_
    refine ww_get (pc := 41) C fl_X6_10 0 rfl rfl dX6_now_41 ?_
    refine ww_get (pc := 44) C fl_X6_179 1 rfl rfl dX6_now_44 ?_
    obtain rfl := Option.some.inj hf
    exact ww_iret (pc := 47) C rfl dX6_now_47
  have hf := oa_ifn c1 hf
  by_cases c2 : x1 = 1
  · have hf := oa_ifp c2 hf
    refine ww_tabI (pc := 1) (tgt := 48) C dX6_now_1 (by rw [c2] <;> decide) (by rw [c2] <;> decide) (by rw [c2] <;> rfl) (by decide) ?_
    refine ww_aload_n (pc := 48) (i := 0) C 0 dX6_now_48 rfl rfl ?_
    refine ww_get (pc := 49) C fl_X6_10 0 rfl rfl dX6_now_49 ?_
    refine ww_get (pc := 52) C fl_X6_182 1 rfl rfl dX6_now_52 ?_
    obtain rfl := Option.some.inj hf
    exact ww_iret (pc := 55) C rfl dX6_now_55
  have hf := oa_ifn c2 hf
  by_cases c3 : x1 = 2
  · have hf := oa_ifp c3 hf
    refine ww_tabI (pc := 1) (tgt := 56) C dX6_now_1 (by rw [c3] <;> decide) (by rw [c3] <;> decide) (by rw [c3] <;> rfl) (by decide) ?_
    refine ww_aload_n (pc := 56) (i := 0) C 0 dX6_now_56 rfl rfl ?_
    refine ww_get (pc := 57) C fl_X6_10 0 rfl rfl dX6_now_57 ?_
    refine ww_get (pc := 60) C fl_X6_185 1 rfl rfl dX6_now_60 ?_
    obtain rfl := Option.some.inj hf
    exact ww_iret (pc := 63) C rfl dX6_now_63
  have hf := oa_ifn c3 hf
  by_cases c4 : x1 = 3
  · have hf := oa_ifp c4 hf
    refine ww_tabI (pc := 1) (tgt := 64) C dX6_now_1 (by rw [c4] <;> decide) (by rw [c4] <;> decide) (by rw [c4] <;> rfl) (by decide) ?_
    refine ww_aload_n (pc := 64) (i := 0) C 0 dX6_now_64 rfl rfl ?_
    refine ww_get (pc := 65) C fl_X6_10 0 rfl rfl dX6_now_65 ?_
    obtain ⟨y5, e6, hf⟩ := oa_bind hf
    refine ww_callV (pc := 68) (As := []) (rest := []) (wd := wd_V O (fun i => a (i + 1)) (B 0)) (ws' := wd_O O a B J) (rv := (some (.int y5))) C hY_X5_free hV_X5_free lk_X6_188 (m_X5_free _ O (fun i => a (i + 1)) (B 0) _ e6) [1, 2, 3, 4, 5, 6] 1 rfl rfl rfl rfl rfl (oa_putS _ _ _ rfl) (fun _ h => h) ⟨rfl, rfl⟩ ⟨Nat.zero_le _, Nat.zero_le _⟩ ⟨Nat.le_of_ble_eq_true rfl, Nat.le_of_ble_eq_true rfl⟩ rfl (Nat.le_of_ble_eq_true rfl) rfl rfl dX6_now_68 ?_
    obtain rfl := Option.some.inj hf
    exact ww_iret (pc := 71) C rfl dX6_now_71
  have hf := oa_ifn c4 hf
  by_cases c8 : x1 = 4
  · have hf := oa_ifp c8 hf
    refine ww_tabI (pc := 1) (tgt := 72) C dX6_now_1 (by rw [c8] <;> decide) (by rw [c8] <;> decide) (by rw [c8] <;> rfl) (by decide) ?_
    refine ww_aload_n (pc := 72) (i := 0) C 0 dX6_now_72 rfl rfl ?_
    refine ww_get (pc := 73) C fl_X6_10 0 rfl rfl dX6_now_73 ?_
    obtain ⟨y9, e10, hf⟩ := oa_bind hf
    refine ww_callV (pc := 76) (As := []) (rest := []) (wd := wd_V O (fun i => a (i + 1)) (B 0)) (ws' := wd_O O a B J) (rv := (some (.long y9))) C hY_X5_openWrongs hV_X5_openWrongs lk_X6_192 (m_X5_openWrongs _ O (fun i => a (i + 1)) (B 0) _ e10) [1, 2, 3, 4, 5, 6] 1 rfl rfl rfl rfl rfl (oa_putS _ _ _ rfl) (fun _ h => h) ⟨rfl, rfl⟩ ⟨Nat.zero_le _, Nat.zero_le _⟩ ⟨Nat.le_of_ble_eq_true rfl, Nat.le_of_ble_eq_true rfl⟩ rfl (Nat.le_of_ble_eq_true rfl) rfl rfl dX6_now_76 ?_
    refine ww_lconst (pc := 79) C dX6_now_79 kl_0 ?_
    refine ww_lcmp (pc := 80) C dX6_now_80 ?_
    refine ww_if_ne (pc := 81) (tgt := 88) C dX6_now_81 (by decide) (fun c12 => ?_) (fun c12 => ?_)
    · have hf := oa_ifn c12 hf
      refine ww_iconst (pc := 88) C dX6_now_88 kc_0 ?_
      obtain rfl := Option.some.inj hf
      exact ww_iret (pc := 89) C rfl dX6_now_89
    · have hf := oa_ifp c12 hf
      refine ww_iconst (pc := 84) C dX6_now_84 kc_1 ?_
      refine ww_goto (pc := 85) (tgt := 89) C dX6_now_85 (by decide) ?_
      obtain rfl := Option.some.inj hf
      exact ww_iret (pc := 89) C rfl dX6_now_89
  have hf := oa_ifn c8 hf
  by_cases c13 : x1 = 5
  · have hf := oa_ifp c13 hf
    refine ww_tabI (pc := 1) (tgt := 90) C dX6_now_1 (by rw [c13] <;> decide) (by rw [c13] <;> decide) (by rw [c13] <;> rfl) (by decide) ?_
    refine ww_aload_n (pc := 90) (i := 0) C 0 dX6_now_90 rfl rfl ?_
    refine ww_get (pc := 91) C fl_X6_10 0 rfl rfl dX6_now_91 ?_
    obtain ⟨y14, e15, hf⟩ := oa_bind hf
    refine ww_callV (pc := 94) (As := []) (rest := []) (wd := wd_V O (fun i => a (i + 1)) (B 0)) (ws' := wd_O O a B J) (rv := (some (.int y14))) C hY_X5_allAngers hV_X5_allAngers lk_X6_196 (m_X5_allAngers _ O (fun i => a (i + 1)) (B 0) _ e15) [1, 2, 3, 4, 5, 6] 1 rfl rfl rfl rfl rfl (oa_putS _ _ _ rfl) (fun _ h => h) ⟨rfl, rfl⟩ ⟨Nat.zero_le _, Nat.zero_le _⟩ ⟨Nat.le_of_ble_eq_true rfl, Nat.le_of_ble_eq_true rfl⟩ rfl (Nat.le_of_ble_eq_true rfl) rfl rfl dX6_now_94 ?_
    obtain rfl := Option.some.inj hf
    exact ww_iret (pc := 97) C rfl dX6_now_97
  have hf := oa_ifn c13 hf
  refine ww_tabO (pc := 1) (tgt := 98) C dX6_now_1 (to_0_5 c1 c2 c3 c4 c8 c13) (by decide) ?_
  refine ww_iconst (pc := 98) C dX6_now_98 kc_m1 ?_
  obtain rfl := Option.some.inj hf
  exact ww_iret (pc := 99) C rfl dX6_now_99
theorem dX6_odds_0 : decode cX6_odds 0 = .ok (.aload_n 0, 1) := by decide +kernel
theorem dX6_odds_1 : decode cX6_odds 1 = .ok (.getfield 10, 3) := by decide +kernel
theorem dX6_odds_4 : decode cX6_odds 4 = .ok (.iload_n 1, 1) := by decide +kernel
theorem dX6_odds_5 : decode cX6_odds 5 = .ok (.iload_n 2, 1) := by decide +kernel
theorem dX6_odds_6 : decode cX6_odds 6 = .ok (.invokevirtual 131, 3) := by decide +kernel
theorem dX6_odds_9 : decode cX6_odds 9 = .ok (.ifCond .eq 12, 3) := by decide +kernel
theorem dX6_odds_12 : decode cX6_odds 12 = .ok (.iload_n 3, 1) := by decide +kernel
theorem dX6_odds_13 : decode cX6_odds 13 = .ok (.iconst 0, 1) := by decide +kernel
theorem dX6_odds_14 : decode cX6_odds 14 = .ok (.iconst 1, 1) := by decide +kernel
theorem dX6_odds_15 : decode cX6_odds 15 = .ok (.invokestatic 96, 3) := by decide +kernel
theorem dX6_odds_18 : decode cX6_odds 18 = .ok (.ifCond .ne 7, 3) := by decide +kernel
theorem dX6_odds_21 : decode cX6_odds 21 = .ok (.ldc2_w 251, 3) := by decide +kernel
theorem dX6_odds_24 : decode cX6_odds 24 = .ok (.lreturn, 1) := by decide +kernel
theorem dX6_odds_25 : decode cX6_odds 25 = .ok (.aload_n 0, 1) := by decide +kernel
theorem dX6_odds_26 : decode cX6_odds 26 = .ok (.getfield 57, 3) := by decide +kernel
theorem dX6_odds_29 : decode cX6_odds 29 = .ok (.aload_n 0, 1) := by decide +kernel
theorem dX6_odds_30 : decode cX6_odds 30 = .ok (.getfield 10, 3) := by decide +kernel
theorem dX6_odds_33 : decode cX6_odds 33 = .ok (.iload_n 1, 1) := by decide +kernel
theorem dX6_odds_34 : decode cX6_odds 34 = .ok (.invokevirtual 253, 3) := by decide +kernel
theorem dX6_odds_37 : decode cX6_odds 37 = .ok (.aload_n 0, 1) := by decide +kernel
theorem dX6_odds_38 : decode cX6_odds 38 = .ok (.getfield 57, 3) := by decide +kernel
theorem dX6_odds_41 : decode cX6_odds 41 = .ok (.getfield 257, 3) := by decide +kernel
theorem dX6_odds_44 : decode cX6_odds 44 = .ok (.iload_n 2, 1) := by decide +kernel
theorem dX6_odds_45 : decode cX6_odds 45 = .ok (.laload, 1) := by decide +kernel
theorem dX6_odds_46 : decode cX6_odds 46 = .ok (.aload_n 0, 1) := by decide +kernel
theorem dX6_odds_47 : decode cX6_odds 47 = .ok (.getfield 57, 3) := by decide +kernel
theorem dX6_odds_50 : decode cX6_odds 50 = .ok (.getfield 261, 3) := by decide +kernel
theorem dX6_odds_53 : decode cX6_odds 53 = .ok (.iload_n 3, 1) := by decide +kernel
theorem dX6_odds_54 : decode cX6_odds 54 = .ok (.invokestatic 265, 3) := by decide +kernel
theorem dX6_odds_57 : decode cX6_odds 57 = .ok (.lreturn, 1) := by decide +kernel
abbrev rm_X6_odds : Room := { frames := 6, cells := 0, slots := 0, locals := 144 }
theorem m_X6_odds (l : Launch) (O : oa_O) (a : Nat → Nat) (B : oa_I3) (J : oa_J2) (x1 : Int32) (x2 : Int32) (x3 : Int32) (res : Int64 × oa_J2) (hf : f_X6_odds B J x1 x2 x3 = some res) : oa_M l yX6_odds cX6_odds 4 (some .long) rm_X6_odds O [.ref (a 0), .int x1, .int x2, .int x3] (wd_O O a B J) (some (.long res.1)) (fun W1 => W1 = wd_O O a B res.2) := by
  refine oa_Mof (by decide) (Nat.le_of_ble_eq_true rfl) (fun G A hl C => ?_)
  subst hl
  have C : oa_C G cX6_odds 4 RX6 (some .long) rm_X6_odds O A := C
  have hf : f_X6_odds B J x1 x2 x3 = some res := hf
  delta f_X6_odds at hf
  show ww G 4 O A (oa_Q G O A (0, 0) (some (.long res.1)) (fun W1 => W1 = wd_O O a B res.2)) (0, 0) 0 [(0, .ref (a 0)), (1, .int x1), (2, .int x2), (3, .int x3)] [] (wd_O O a B J)
  refine ww_aload_n (pc := 0) (i := 0) C 0 dX6_odds_0 rfl rfl ?_
  refine ww_get (pc := 1) C fl_X6_10 0 rfl rfl dX6_odds_1 ?_
  refine ww_iload_n (pc := 4) (i := 1) C 1 dX6_odds_4 rfl rfl ?_
  refine ww_iload_n (pc := 5) (i := 2) C 2 dX6_odds_5 rfl rfl ?_
  obtain ⟨y1, e2, hf⟩ := oa_bind hf
  refine ww_callV (pc := 6) (As := [.int x1, .int x2]) (rest := []) (wd := wd_V O (fun i => a (i + 1)) (B 0)) (ws' := wd_O O a B J) (rv := (some (.int y1))) C hY_X5_hasTwo hV_X5_hasTwo lk_X6_131 (m_X5_hasTwo _ O (fun i => a (i + 1)) (B 0) x1 x2 _ e2) [1, 2, 3, 4, 5, 6] 1 rfl rfl rfl rfl rfl (oa_putS _ _ _ rfl) (fun _ h => h) ⟨rfl, rfl⟩ ⟨Nat.zero_le _, Nat.zero_le _⟩ ⟨Nat.le_of_ble_eq_true rfl, Nat.le_of_ble_eq_true rfl⟩ rfl (Nat.le_of_ble_eq_true rfl) rfl rfl dX6_odds_6 ?_
  refine ww_if_eq (pc := 9) (tgt := 21) C dX6_odds_9 (by decide) (fun c4 => ?_) (fun c4 => ?_)
  · have hf := oa_ifp c4 hf
    refine ww_ldc2 (pc := 21) C cw_X6_251 dX6_odds_21 ?_
    obtain rfl := Option.some.inj hf
    exact ww_lret (pc := 24) C rfl dX6_odds_24
  · have hf := oa_ifn c4 hf
    refine ww_iload_n (pc := 12) (i := 3) C 3 dX6_odds_12 rfl rfl ?_
    refine ww_iconst (pc := 13) C dX6_odds_13 kc_0 ?_
    refine ww_iconst (pc := 14) C dX6_odds_14 kc_1 ?_
    obtain ⟨y5, e6, hf⟩ := oa_bind hf
    refine ww_callS (pc := 15) (As := [.int x3, .int 0, .int 1]) (rest := []) (wd := []) (ws' := wd_O O a B J) (rv := (some (.int y5))) C hY_X6_within hS_X6_within lk_X6_96 (m_X6_within _ O  x3 0 1 _ e6) [] rfl rfl rfl (oa_putS _ _ _ rfl) (fun _ h => h) ⟨rfl, rfl⟩ ⟨Nat.zero_le _, Nat.zero_le _⟩ ⟨Nat.le_of_ble_eq_true rfl, Nat.le_of_ble_eq_true rfl⟩ rfl (Nat.le_of_ble_eq_true rfl) rfl rfl dX6_odds_15 ?_
    refine ww_if_ne (pc := 18) (tgt := 25) C dX6_odds_18 (by decide) (fun c8 => ?_) (fun c8 => ?_)
    · have hf := oa_ifn c8 hf
      refine ww_aload_n (pc := 25) (i := 0) C 0 dX6_odds_25 rfl rfl ?_
      refine ww_get (pc := 26) C fl_X6_57 0 rfl rfl dX6_odds_26 ?_
      refine ww_aload_n (pc := 29) (i := 0) C 0 dX6_odds_29 rfl rfl ?_
      refine ww_get (pc := 30) C fl_X6_10 0 rfl rfl dX6_odds_30 ?_
      refine ww_iload_n (pc := 33) (i := 1) C 1 dX6_odds_33 rfl rfl ?_
      obtain ⟨J9, e10, hf⟩ := oa_bind hf
      refine ww_callV (pc := 34) (As := [.ref (a 1), .int x1]) (rest := []) (wd := wd_HV O (fun i => a (i + 28)) (fun i => a (i + 1)) J9 (B 0)) (ws' := wd_O O a B J9) (rv := none) C hY_X0_weigh hV_X0_weigh lk_X6_253 (m_X0_weigh _ O (fun i => a (i + 28)) (fun i => a (i + 1)) J (B 0) x1 _ e10) [28, 29, 1, 2, 3, 4, 5, 6] 28 rfl rfl rfl rfl rfl rfl (fun _ h => h) ⟨rfl, rfl⟩ ⟨Nat.zero_le _, Nat.zero_le _⟩ ⟨Nat.le_of_ble_eq_true rfl, Nat.le_of_ble_eq_true rfl⟩ rfl (Nat.le_of_ble_eq_true rfl) rfl rfl dX6_odds_34 ?_
      refine ww_aload_n (pc := 37) (i := 0) C 0 dX6_odds_37 rfl rfl ?_
      refine ww_get (pc := 38) C fl_X6_57 0 rfl rfl dX6_odds_38 ?_
      refine ww_get (pc := 41) C fl_X6_257 28 rfl rfl dX6_odds_41 ?_
      refine ww_iload_n (pc := 44) (i := 2) C 2 dX6_odds_44 rfl rfl ?_
      obtain ⟨y12, e13, hf⟩ := oa_bind hf
      refine ww_lald (pc := 45) C 29 rfl e13 dX6_odds_45 ?_
      refine ww_aload_n (pc := 46) (i := 0) C 0 dX6_odds_46 rfl rfl ?_
      refine ww_get (pc := 47) C fl_X6_57 0 rfl rfl dX6_odds_47 ?_
      refine ww_get (pc := 50) C fl_X6_261 28 rfl rfl dX6_odds_50 ?_
      refine ww_iload_n (pc := 53) (i := 3) C 3 dX6_odds_53 rfl rfl ?_
      obtain ⟨y14, e15, hf⟩ := oa_bind hf
      refine ww_callS (pc := 54) (As := [.long y12, .long (J9 1 0), .int x3]) (rest := []) (wd := []) (ws' := wd_O O a B J9) (rv := (some (.long y14))) C hY_X6_inLowestTerms hS_X6_inLowestTerms lk_X6_265 (m_X6_inLowestTerms _ O  y12 (J9 1 0) x3 _ e15) [] rfl rfl rfl (oa_putS _ _ _ rfl) (fun _ h => h) ⟨rfl, rfl⟩ ⟨Nat.zero_le _, Nat.zero_le _⟩ ⟨Nat.le_of_ble_eq_true rfl, Nat.le_of_ble_eq_true rfl⟩ rfl (Nat.le_of_ble_eq_true rfl) rfl rfl dX6_odds_54 ?_
      obtain rfl := Option.some.inj hf
      exact ww_lret (pc := 57) C rfl dX6_odds_57
    · have hf := oa_ifp c8 hf
      refine ww_ldc2 (pc := 21) C cw_X6_251 dX6_odds_21 ?_
      obtain rfl := Option.some.inj hf
      exact ww_lret (pc := 24) C rfl dX6_odds_24
theorem dX6_old_0 : decode cX6_old 0 = .ok (.aload_n 0, 1) := by decide +kernel
theorem dX6_old_1 : decode cX6_old 1 = .ok (.getfield 10, 3) := by decide +kernel
theorem dX6_old_4 : decode cX6_old 4 = .ok (.iload_n 1, 1) := by decide +kernel
theorem dX6_old_5 : decode cX6_old 5 = .ok (.iload_n 2, 1) := by decide +kernel
theorem dX6_old_6 : decode cX6_old 6 = .ok (.invokevirtual 131, 3) := by decide +kernel
theorem dX6_old_9 : decode cX6_old 9 = .ok (.ifCond .ne 5, 3) := by decide +kernel
theorem dX6_old_12 : decode cX6_old 12 = .ok (.iconst (-1), 1) := by decide +kernel
theorem dX6_old_13 : decode cX6_old 13 = .ok (.ireturn, 1) := by decide +kernel
theorem dX6_old_14 : decode cX6_old 14 = .ok (.aload_n 0, 1) := by decide +kernel
theorem dX6_old_15 : decode cX6_old 15 = .ok (.getfield 10, 3) := by decide +kernel
theorem dX6_old_18 : decode cX6_old 18 = .ok (.iload_n 1, 1) := by decide +kernel
theorem dX6_old_19 : decode cX6_old 19 = .ok (.iload_n 2, 1) := by decide +kernel
theorem dX6_old_20 : decode cX6_old 20 = .ok (.invokevirtual 135, 3) := by decide +kernel
theorem dX6_old_23 : decode cX6_old 23 = .ok (.ifCond .eq 15, 3) := by decide +kernel
theorem dX6_old_26 : decode cX6_old 26 = .ok (.aload_n 0, 1) := by decide +kernel
theorem dX6_old_27 : decode cX6_old 27 = .ok (.getfield 10, 3) := by decide +kernel
theorem dX6_old_30 : decode cX6_old 30 = .ok (.iload_n 1, 1) := by decide +kernel
theorem dX6_old_31 : decode cX6_old 31 = .ok (.iload_n 2, 1) := by decide +kernel
theorem dX6_old_32 : decode cX6_old 32 = .ok (.invokevirtual 138, 3) := by decide +kernel
theorem dX6_old_35 : decode cX6_old 35 = .ok (.goto 5, 3) := by decide +kernel
theorem dX6_old_38 : decode cX6_old 38 = .ok (.bipush (-4), 2) := by decide +kernel
theorem dX6_old_40 : decode cX6_old 40 = .ok (.ireturn, 1) := by decide +kernel
abbrev rm_X6_old : Room := { frames := 3, cells := 0, slots := 0, locals := 65 }
theorem m_X6_old (l : Launch) (O : oa_O) (a : Nat → Nat) (B : oa_I3) (J : oa_J2) (x1 : Int32) (x2 : Int32) (res : Int32) (hf : f_X6_old B J x1 x2 = some res) : oa_M l yX6_old cX6_old 3 (some .int) rm_X6_old O [.ref (a 0), .int x1, .int x2] (wd_O O a B J) (some (.int res)) (fun W1 => W1 = wd_O O a B J) := by
  refine oa_Mof (by decide) (Nat.le_of_ble_eq_true rfl) (fun G A hl C => ?_)
  subst hl
  have C : oa_C G cX6_old 3 RX6 (some .int) rm_X6_old O A := C
  have hf : f_X6_old B J x1 x2 = some res := hf
  delta f_X6_old at hf
  show ww G 3 O A (oa_Q G O A (0, 0) (some (.int res)) (fun W1 => W1 = wd_O O a B J)) (0, 0) 0 [(0, .ref (a 0)), (1, .int x1), (2, .int x2)] [] (wd_O O a B J)
  refine ww_aload_n (pc := 0) (i := 0) C 0 dX6_old_0 rfl rfl ?_
  refine ww_get (pc := 1) C fl_X6_10 0 rfl rfl dX6_old_1 ?_
  refine ww_iload_n (pc := 4) (i := 1) C 1 dX6_old_4 rfl rfl ?_
  refine ww_iload_n (pc := 5) (i := 2) C 2 dX6_old_5 rfl rfl ?_
  obtain ⟨y1, e2, hf⟩ := oa_bind hf
  refine ww_callV (pc := 6) (As := [.int x1, .int x2]) (rest := []) (wd := wd_V O (fun i => a (i + 1)) (B 0)) (ws' := wd_O O a B J) (rv := (some (.int y1))) C hY_X5_hasTwo hV_X5_hasTwo lk_X6_131 (m_X5_hasTwo _ O (fun i => a (i + 1)) (B 0) x1 x2 _ e2) [1, 2, 3, 4, 5, 6] 1 rfl rfl rfl rfl rfl (oa_putS _ _ _ rfl) (fun _ h => h) ⟨rfl, rfl⟩ ⟨Nat.zero_le _, Nat.zero_le _⟩ ⟨Nat.le_of_ble_eq_true rfl, Nat.le_of_ble_eq_true rfl⟩ rfl (Nat.le_of_ble_eq_true rfl) rfl rfl dX6_old_6 ?_
  refine ww_if_ne (pc := 9) (tgt := 14) C dX6_old_9 (by decide) (fun c4 => ?_) (fun c4 => ?_)
  · have hf := oa_ifn c4 hf
    refine ww_aload_n (pc := 14) (i := 0) C 0 dX6_old_14 rfl rfl ?_
    refine ww_get (pc := 15) C fl_X6_10 0 rfl rfl dX6_old_15 ?_
    refine ww_iload_n (pc := 18) (i := 1) C 1 dX6_old_18 rfl rfl ?_
    refine ww_iload_n (pc := 19) (i := 2) C 2 dX6_old_19 rfl rfl ?_
    obtain ⟨y5, e6, hf⟩ := oa_bind hf
    refine ww_callV (pc := 20) (As := [.int x1, .int x2]) (rest := []) (wd := wd_V O (fun i => a (i + 1)) (B 0)) (ws' := wd_O O a B J) (rv := (some (.int y5))) C hY_X5_isAngry hV_X5_isAngry lk_X6_135 (m_X5_isAngry _ O (fun i => a (i + 1)) (B 0) x1 x2 _ e6) [1, 2, 3, 4, 5, 6] 1 rfl rfl rfl rfl rfl (oa_putS _ _ _ rfl) (fun _ h => h) ⟨rfl, rfl⟩ ⟨Nat.zero_le _, Nat.zero_le _⟩ ⟨Nat.le_of_ble_eq_true rfl, Nat.le_of_ble_eq_true rfl⟩ rfl (Nat.le_of_ble_eq_true rfl) rfl rfl dX6_old_20 ?_
    refine ww_if_eq (pc := 23) (tgt := 38) C dX6_old_23 (by decide) (fun c8 => ?_) (fun c8 => ?_)
    · have hf := oa_ifp c8 hf
      refine ww_bipush (pc := 38) C dX6_old_38 kb_m4 ?_
      obtain rfl := Option.some.inj hf
      exact ww_iret (pc := 40) C rfl dX6_old_40
    · have hf := oa_ifn c8 hf
      refine ww_aload_n (pc := 26) (i := 0) C 0 dX6_old_26 rfl rfl ?_
      refine ww_get (pc := 27) C fl_X6_10 0 rfl rfl dX6_old_27 ?_
      refine ww_iload_n (pc := 30) (i := 1) C 1 dX6_old_30 rfl rfl ?_
      refine ww_iload_n (pc := 31) (i := 2) C 2 dX6_old_31 rfl rfl ?_
      obtain ⟨y9, e10, hf⟩ := oa_bind hf
      refine ww_callV (pc := 32) (As := [.int x1, .int x2]) (rest := []) (wd := wd_V O (fun i => a (i + 1)) (B 0)) (ws' := wd_O O a B J) (rv := (some (.int y9))) C hY_X5_ageOf hV_X5_ageOf lk_X6_138 (m_X5_ageOf _ O (fun i => a (i + 1)) (B 0) x1 x2 _ e10) [1, 2, 3, 4, 5, 6] 1 rfl rfl rfl rfl rfl (oa_putS _ _ _ rfl) (fun _ h => h) ⟨rfl, rfl⟩ ⟨Nat.zero_le _, Nat.zero_le _⟩ ⟨Nat.le_of_ble_eq_true rfl, Nat.le_of_ble_eq_true rfl⟩ rfl (Nat.le_of_ble_eq_true rfl) rfl rfl dX6_old_32 ?_
      refine ww_goto (pc := 35) (tgt := 40) C dX6_old_35 (by decide) ?_
      obtain rfl := Option.some.inj hf
      exact ww_iret (pc := 40) C rfl dX6_old_40
  · have hf := oa_ifp c4 hf
    refine ww_iconst (pc := 12) C dX6_old_12 kc_m1 ?_
    obtain rfl := Option.some.inj hf
    exact ww_iret (pc := 13) C rfl dX6_old_13
theorem dX6_one_0 : decode cX6_one 0 = .ok (.aload_n 0, 1) := by decide +kernel
theorem dX6_one_1 : decode cX6_one 1 = .ok (.getfield 10, 3) := by decide +kernel
theorem dX6_one_4 : decode cX6_one 4 = .ok (.iload_n 1, 1) := by decide +kernel
theorem dX6_one_5 : decode cX6_one 5 = .ok (.invokevirtual 104, 3) := by decide +kernel
theorem dX6_one_8 : decode cX6_one 8 = .ok (.ifCond .eq 13, 3) := by decide +kernel
theorem dX6_one_11 : decode cX6_one 11 = .ok (.iload_n 2, 1) := by decide +kernel
theorem dX6_one_12 : decode cX6_one 12 = .ok (.iconst 0, 1) := by decide +kernel
theorem dX6_one_13 : decode cX6_one 13 = .ok (.bipush 10, 2) := by decide +kernel
theorem dX6_one_15 : decode cX6_one 15 = .ok (.invokestatic 96, 3) := by decide +kernel
theorem dX6_one_18 : decode cX6_one 18 = .ok (.ifCond .ne 5, 3) := by decide +kernel
theorem dX6_one_21 : decode cX6_one 21 = .ok (.iconst (-1), 1) := by decide +kernel
theorem dX6_one_22 : decode cX6_one 22 = .ok (.ireturn, 1) := by decide +kernel
theorem dX6_one_23 : decode cX6_one 23 = .ok (.iload_n 2, 1) := by decide +kernel
theorem dX6_one_24 : decode cX6_one 24 = .ok (.tableswitch 64 8 10 #[28, 38, 55], 28) := by decide +kernel
theorem dX6_one_52 : decode cX6_one 52 = .ok (.aload_n 0, 1) := by decide +kernel
theorem dX6_one_53 : decode cX6_one 53 = .ok (.getfield 10, 3) := by decide +kernel
theorem dX6_one_56 : decode cX6_one 56 = .ok (.getfield 108, 3) := by decide +kernel
theorem dX6_one_59 : decode cX6_one 59 = .ok (.iload_n 1, 1) := by decide +kernel
theorem dX6_one_60 : decode cX6_one 60 = .ok (.iaload, 1) := by decide +kernel
theorem dX6_one_61 : decode cX6_one 61 = .ok (.ireturn, 1) := by decide +kernel
theorem dX6_one_62 : decode cX6_one 62 = .ok (.aload_n 0, 1) := by decide +kernel
theorem dX6_one_63 : decode cX6_one 63 = .ok (.getfield 10, 3) := by decide +kernel
theorem dX6_one_66 : decode cX6_one 66 = .ok (.iload_n 1, 1) := by decide +kernel
theorem dX6_one_67 : decode cX6_one 67 = .ok (.invokevirtual 111, 3) := by decide +kernel
theorem dX6_one_70 : decode cX6_one 70 = .ok (.ifCond .eq 7, 3) := by decide +kernel
theorem dX6_one_73 : decode cX6_one 73 = .ok (.iconst 1, 1) := by decide +kernel
theorem dX6_one_74 : decode cX6_one 74 = .ok (.goto 4, 3) := by decide +kernel
theorem dX6_one_77 : decode cX6_one 77 = .ok (.iconst 0, 1) := by decide +kernel
theorem dX6_one_78 : decode cX6_one 78 = .ok (.ireturn, 1) := by decide +kernel
theorem dX6_one_79 : decode cX6_one 79 = .ok (.aload_n 0, 1) := by decide +kernel
theorem dX6_one_80 : decode cX6_one 80 = .ok (.getfield 10, 3) := by decide +kernel
theorem dX6_one_83 : decode cX6_one 83 = .ok (.iload_n 1, 1) := by decide +kernel
theorem dX6_one_84 : decode cX6_one 84 = .ok (.invokevirtual 114, 3) := by decide +kernel
theorem dX6_one_87 : decode cX6_one 87 = .ok (.ireturn, 1) := by decide +kernel
theorem dX6_one_88 : decode cX6_one 88 = .ok (.aload_n 0, 1) := by decide +kernel
theorem dX6_one_89 : decode cX6_one 89 = .ok (.getfield 10, 3) := by decide +kernel
theorem dX6_one_92 : decode cX6_one 92 = .ok (.iload_n 2, 1) := by decide +kernel
theorem dX6_one_93 : decode cX6_one 93 = .ok (.iload_n 1, 1) := by decide +kernel
theorem dX6_one_94 : decode cX6_one 94 = .ok (.invokevirtual 117, 3) := by decide +kernel
theorem dX6_one_97 : decode cX6_one 97 = .ok (.ireturn, 1) := by decide +kernel
abbrev rm_X6_one : Room := { frames := 3, cells := 0, slots := 0, locals := 65 }
theorem m_X6_one (l : Launch) (O : oa_O) (a : Nat → Nat) (B : oa_I3) (J : oa_J2) (x1 : Int32) (x2 : Int32) (res : Int32) (hf : f_X6_one B J x1 x2 = some res) : oa_M l yX6_one cX6_one 3 (some .int) rm_X6_one O [.ref (a 0), .int x1, .int x2] (wd_O O a B J) (some (.int res)) (fun W1 => W1 = wd_O O a B J) := by
  refine oa_Mof (by decide) (Nat.le_of_ble_eq_true rfl) (fun G A hl C => ?_)
  subst hl
  have C : oa_C G cX6_one 3 RX6 (some .int) rm_X6_one O A := C
  have hf : f_X6_one B J x1 x2 = some res := hf
  delta f_X6_one at hf
  show ww G 3 O A (oa_Q G O A (0, 0) (some (.int res)) (fun W1 => W1 = wd_O O a B J)) (0, 0) 0 [(0, .ref (a 0)), (1, .int x1), (2, .int x2)] [] (wd_O O a B J)
  refine ww_aload_n (pc := 0) (i := 0) C 0 dX6_one_0 rfl rfl ?_
  refine ww_get (pc := 1) C fl_X6_10 0 rfl rfl dX6_one_1 ?_
  refine ww_iload_n (pc := 4) (i := 1) C 1 dX6_one_4 rfl rfl ?_
  obtain ⟨y1, e2, hf⟩ := oa_bind hf
  refine ww_callV (pc := 5) (As := [.int x1]) (rest := []) (wd := wd_V O (fun i => a (i + 1)) (B 0)) (ws' := wd_O O a B J) (rv := (some (.int y1))) C hY_X5_has hV_X5_has lk_X6_104 (m_X5_has _ O (fun i => a (i + 1)) (B 0) x1 _ e2) [1, 2, 3, 4, 5, 6] 1 rfl rfl rfl rfl rfl (oa_putS _ _ _ rfl) (fun _ h => h) ⟨rfl, rfl⟩ ⟨Nat.zero_le _, Nat.zero_le _⟩ ⟨Nat.le_of_ble_eq_true rfl, Nat.le_of_ble_eq_true rfl⟩ rfl (Nat.le_of_ble_eq_true rfl) rfl rfl dX6_one_5 ?_
  refine ww_if_eq (pc := 8) (tgt := 21) C dX6_one_8 (by decide) (fun c4 => ?_) (fun c4 => ?_)
  · have hf := oa_ifp c4 hf
    refine ww_iconst (pc := 21) C dX6_one_21 kc_m1 ?_
    obtain rfl := Option.some.inj hf
    exact ww_iret (pc := 22) C rfl dX6_one_22
  · have hf := oa_ifn c4 hf
    refine ww_iload_n (pc := 11) (i := 2) C 2 dX6_one_11 rfl rfl ?_
    refine ww_iconst (pc := 12) C dX6_one_12 kc_0 ?_
    refine ww_bipush (pc := 13) C dX6_one_13 kb_10 ?_
    obtain ⟨y5, e6, hf⟩ := oa_bind hf
    refine ww_callS (pc := 15) (As := [.int x2, .int 0, .int 10]) (rest := []) (wd := []) (ws' := wd_O O a B J) (rv := (some (.int y5))) C hY_X6_within hS_X6_within lk_X6_96 (m_X6_within _ O  x2 0 10 _ e6) [] rfl rfl rfl (oa_putS _ _ _ rfl) (fun _ h => h) ⟨rfl, rfl⟩ ⟨Nat.zero_le _, Nat.zero_le _⟩ ⟨Nat.le_of_ble_eq_true rfl, Nat.le_of_ble_eq_true rfl⟩ rfl (Nat.le_of_ble_eq_true rfl) rfl rfl dX6_one_15 ?_
    refine ww_if_ne (pc := 18) (tgt := 23) C dX6_one_18 (by decide) (fun c8 => ?_) (fun c8 => ?_)
    · have hf := oa_ifn c8 hf
      refine ww_iload_n (pc := 23) (i := 2) C 2 dX6_one_23 rfl rfl ?_
      by_cases c9 : x2 = 8
      · have hf := oa_ifp c9 hf
        refine ww_tabI (pc := 24) (tgt := 52) C dX6_one_24 (by rw [c9] <;> decide) (by rw [c9] <;> decide) (by rw [c9] <;> rfl) (by decide) ?_
        refine ww_aload_n (pc := 52) (i := 0) C 0 dX6_one_52 rfl rfl ?_
        refine ww_get (pc := 53) C fl_X6_10 0 rfl rfl dX6_one_53 ?_
        refine ww_get (pc := 56) C fl_X6_108 1 rfl rfl dX6_one_56 ?_
        refine ww_iload_n (pc := 59) (i := 1) C 1 dX6_one_59 rfl rfl ?_
        obtain ⟨y10, e11, hf⟩ := oa_bind hf
        refine ww_iald (pc := 60) C 4 rfl e11 dX6_one_60 ?_
        obtain rfl := Option.some.inj hf
        exact ww_iret (pc := 61) C rfl dX6_one_61
      have hf := oa_ifn c9 hf
      by_cases c12 : x2 = 9
      · have hf := oa_ifp c12 hf
        refine ww_tabI (pc := 24) (tgt := 62) C dX6_one_24 (by rw [c12] <;> decide) (by rw [c12] <;> decide) (by rw [c12] <;> rfl) (by decide) ?_
        refine ww_aload_n (pc := 62) (i := 0) C 0 dX6_one_62 rfl rfl ?_
        refine ww_get (pc := 63) C fl_X6_10 0 rfl rfl dX6_one_63 ?_
        refine ww_iload_n (pc := 66) (i := 1) C 1 dX6_one_66 rfl rfl ?_
        obtain ⟨y13, e14, hf⟩ := oa_bind hf
        refine ww_callV (pc := 67) (As := [.int x1]) (rest := []) (wd := wd_V O (fun i => a (i + 1)) (B 0)) (ws' := wd_O O a B J) (rv := (some (.int y13))) C hY_X5_isFree hV_X5_isFree lk_X6_111 (m_X5_isFree _ O (fun i => a (i + 1)) (B 0) x1 _ e14) [1, 2, 3, 4, 5, 6] 1 rfl rfl rfl rfl rfl (oa_putS _ _ _ rfl) (fun _ h => h) ⟨rfl, rfl⟩ ⟨Nat.zero_le _, Nat.zero_le _⟩ ⟨Nat.le_of_ble_eq_true rfl, Nat.le_of_ble_eq_true rfl⟩ rfl (Nat.le_of_ble_eq_true rfl) rfl rfl dX6_one_67 ?_
        refine ww_if_eq (pc := 70) (tgt := 77) C dX6_one_70 (by decide) (fun c16 => ?_) (fun c16 => ?_)
        · have hf := oa_ifp c16 hf
          refine ww_iconst (pc := 77) C dX6_one_77 kc_0 ?_
          obtain rfl := Option.some.inj hf
          exact ww_iret (pc := 78) C rfl dX6_one_78
        · have hf := oa_ifn c16 hf
          refine ww_iconst (pc := 73) C dX6_one_73 kc_1 ?_
          refine ww_goto (pc := 74) (tgt := 78) C dX6_one_74 (by decide) ?_
          obtain rfl := Option.some.inj hf
          exact ww_iret (pc := 78) C rfl dX6_one_78
      have hf := oa_ifn c12 hf
      by_cases c17 : x2 = 10
      · have hf := oa_ifp c17 hf
        refine ww_tabI (pc := 24) (tgt := 79) C dX6_one_24 (by rw [c17] <;> decide) (by rw [c17] <;> decide) (by rw [c17] <;> rfl) (by decide) ?_
        refine ww_aload_n (pc := 79) (i := 0) C 0 dX6_one_79 rfl rfl ?_
        refine ww_get (pc := 80) C fl_X6_10 0 rfl rfl dX6_one_80 ?_
        refine ww_iload_n (pc := 83) (i := 1) C 1 dX6_one_83 rfl rfl ?_
        obtain ⟨y18, e19, hf⟩ := oa_bind hf
        refine ww_callV (pc := 84) (As := [.int x1]) (rest := []) (wd := wd_V O (fun i => a (i + 1)) (B 0)) (ws' := wd_O O a B J) (rv := (some (.int y18))) C hY_X5_costOf hV_X5_costOf lk_X6_114 (m_X5_costOf _ O (fun i => a (i + 1)) (B 0) x1 _ e19) [1, 2, 3, 4, 5, 6] 1 rfl rfl rfl rfl rfl (oa_putS _ _ _ rfl) (fun _ h => h) ⟨rfl, rfl⟩ ⟨Nat.zero_le _, Nat.zero_le _⟩ ⟨Nat.le_of_ble_eq_true rfl, Nat.le_of_ble_eq_true rfl⟩ rfl (Nat.le_of_ble_eq_true rfl) rfl rfl dX6_one_84 ?_
        obtain rfl := Option.some.inj hf
        exact ww_iret (pc := 87) C rfl dX6_one_87
      have hf := oa_ifn c17 hf
      refine ww_tabO (pc := 24) (tgt := 88) C dX6_one_24 (to_8_10 c9 c12 c17) (by decide) ?_
      refine ww_aload_n (pc := 88) (i := 0) C 0 dX6_one_88 rfl rfl ?_
      refine ww_get (pc := 89) C fl_X6_10 0 rfl rfl dX6_one_89 ?_
      refine ww_iload_n (pc := 92) (i := 2) C 2 dX6_one_92 rfl rfl ?_
      refine ww_iload_n (pc := 93) (i := 1) C 1 dX6_one_93 rfl rfl ?_
      obtain ⟨y21, e22, hf⟩ := oa_bind hf
      refine ww_callV (pc := 94) (As := [.int x2, .int x1]) (rest := []) (wd := wd_V O (fun i => a (i + 1)) (B 0)) (ws' := wd_O O a B J) (rv := (some (.int y21))) C hY_X5_trait hV_X5_trait lk_X6_117 (m_X5_trait _ O (fun i => a (i + 1)) (B 0) x2 x1 _ e22) [1, 2, 3, 4, 5, 6] 1 rfl rfl rfl rfl rfl (oa_putS _ _ _ rfl) (fun _ h => h) ⟨rfl, rfl⟩ ⟨Nat.zero_le _, Nat.zero_le _⟩ ⟨Nat.le_of_ble_eq_true rfl, Nat.le_of_ble_eq_true rfl⟩ rfl (Nat.le_of_ble_eq_true rfl) rfl rfl dX6_one_94 ?_
      obtain rfl := Option.some.inj hf
      exact ww_iret (pc := 97) C rfl dX6_one_97
    · have hf := oa_ifp c8 hf
      refine ww_iconst (pc := 21) C dX6_one_21 kc_m1 ?_
      obtain rfl := Option.some.inj hf
      exact ww_iret (pc := 22) C rfl dX6_one_22
theorem dX6_open_0 : decode cX6_open 0 = .ok (.aload_n 0, 1) := by decide +kernel
theorem dX6_open_1 : decode cX6_open 1 = .ok (.getfield 10, 3) := by decide +kernel
theorem dX6_open_4 : decode cX6_open 4 = .ok (.invokevirtual 192, 3) := by decide +kernel
theorem dX6_open_7 : decode cX6_open 7 = .ok (.lreturn, 1) := by decide +kernel
abbrev rm_X6_open : Room := { frames := 6, cells := 0, slots := 0, locals := 136 }
theorem m_X6_open (l : Launch) (O : oa_O) (a : Nat → Nat) (B : oa_I3) (J : oa_J2)  (res : Int64) (hf : f_X6_open B J = some res) : oa_M l yX6_open cX6_open 1 (some .long) rm_X6_open O [.ref (a 0)] (wd_O O a B J) (some (.long res)) (fun W1 => W1 = wd_O O a B J) := by
  refine oa_Mof (by decide) (Nat.le_of_ble_eq_true rfl) (fun G A hl C => ?_)
  subst hl
  have C : oa_C G cX6_open 1 RX6 (some .long) rm_X6_open O A := C
  have hf : f_X6_open B J = some res := hf
  delta f_X6_open at hf
  show ww G 1 O A (oa_Q G O A (0, 0) (some (.long res)) (fun W1 => W1 = wd_O O a B J)) (0, 0) 0 [(0, .ref (a 0))] [] (wd_O O a B J)
  refine ww_aload_n (pc := 0) (i := 0) C 0 dX6_open_0 rfl rfl ?_
  refine ww_get (pc := 1) C fl_X6_10 0 rfl rfl dX6_open_1 ?_
  obtain ⟨y1, e2, hf⟩ := oa_bind hf
  refine ww_callV (pc := 4) (As := []) (rest := []) (wd := wd_V O (fun i => a (i + 1)) (B 0)) (ws' := wd_O O a B J) (rv := (some (.long y1))) C hY_X5_openWrongs hV_X5_openWrongs lk_X6_192 (m_X5_openWrongs _ O (fun i => a (i + 1)) (B 0) _ e2) [1, 2, 3, 4, 5, 6] 1 rfl rfl rfl rfl rfl (oa_putS _ _ _ rfl) (fun _ h => h) ⟨rfl, rfl⟩ ⟨Nat.zero_le _, Nat.zero_le _⟩ ⟨Nat.le_of_ble_eq_true rfl, Nat.le_of_ble_eq_true rfl⟩ rfl (Nat.le_of_ble_eq_true rfl) rfl rfl dX6_open_4 ?_
  obtain rfl := Option.some.inj hf
  exact ww_lret (pc := 7) C rfl dX6_open_7
theorem dX6_peace_0 : decode cX6_peace 0 = .ok (.aload_n 0, 1) := by decide +kernel
theorem dX6_peace_1 : decode cX6_peace 1 = .ok (.getfield 16, 3) := by decide +kernel
theorem dX6_peace_4 : decode cX6_peace 4 = .ok (.aload_n 0, 1) := by decide +kernel
theorem dX6_peace_5 : decode cX6_peace 5 = .ok (.getfield 10, 3) := by decide +kernel
theorem dX6_peace_8 : decode cX6_peace 8 = .ok (.invokevirtual 89, 3) := by decide +kernel
theorem dX6_peace_11 : decode cX6_peace 11 = .ok (.iconst 0, 1) := by decide +kernel
theorem dX6_peace_12 : decode cX6_peace 12 = .ok (.istore_n 1, 1) := by decide +kernel
theorem dX6_peace_13 : decode cX6_peace 13 = .ok (.iload_n 1, 1) := by decide +kernel
theorem dX6_peace_14 : decode cX6_peace 14 = .ok (.bipush 99, 2) := by decide +kernel
theorem dX6_peace_16 : decode cX6_peace 16 = .ok (.if_icmp .ge 30, 3) := by decide +kernel
theorem dX6_peace_19 : decode cX6_peace 19 = .ok (.aload_n 0, 1) := by decide +kernel
theorem dX6_peace_20 : decode cX6_peace 20 = .ok (.getfield 16, 3) := by decide +kernel
theorem dX6_peace_23 : decode cX6_peace 23 = .ok (.iconst 1, 1) := by decide +kernel
theorem dX6_peace_24 : decode cX6_peace 24 = .ok (.invokevirtual 176, 3) := by decide +kernel
theorem dX6_peace_27 : decode cX6_peace 27 = .ok (.pop, 1) := by decide +kernel
theorem dX6_peace_28 : decode cX6_peace 28 = .ok (.aload_n 0, 1) := by decide +kernel
theorem dX6_peace_29 : decode cX6_peace 29 = .ok (.getfield 16, 3) := by decide +kernel
theorem dX6_peace_32 : decode cX6_peace 32 = .ok (.getfield 199, 3) := by decide +kernel
theorem dX6_peace_35 : decode cX6_peace 35 = .ok (.ifCond .ne 5, 3) := by decide +kernel
theorem dX6_peace_38 : decode cX6_peace 38 = .ok (.iload_n 1, 1) := by decide +kernel
theorem dX6_peace_39 : decode cX6_peace 39 = .ok (.ireturn, 1) := by decide +kernel
theorem dX6_peace_40 : decode cX6_peace 40 = .ok (.iinc 1 1, 3) := by decide +kernel
theorem dX6_peace_43 : decode cX6_peace 43 = .ok (.goto (-30), 3) := by decide +kernel
theorem dX6_peace_46 : decode cX6_peace 46 = .ok (.bipush (-4), 2) := by decide +kernel
theorem dX6_peace_48 : decode cX6_peace 48 = .ok (.ireturn, 1) := by decide +kernel
abbrev rm_X6_peace : Room := { frames := 7, cells := 0, slots := 0, locals := 160 }
theorem t_b_X6_peace_13 {G : oa_G} {O : oa_O} {A : Nat → Prop} {a : Nat → Nat} {res : Int32 × oa_I3} (C : oa_C G cX6_peace 2 RX6 (some .int) rm_X6_peace O A) (J : oa_J2)    (k13 : oa_I3 → Int32 → Option (Int32 × oa_I3))  (hk13 : ∀ (b_B : oa_I3) (b_x1 : Int32), k13 b_B b_x1 = some res → ww G 2 O A (oa_Q G O A (0, 0) (some (.int res.1)) (fun W1 => W1 = wd_O O a res.2 J)) (0, 0) 13 [(0, .ref (a 0)), (1, .int b_x1)] [] (wd_O O a b_B J)) (B : oa_I3) (x1 : Int32) (hf : b_X6_peace_13 J k13 B x1 = some res) : ww G 2 O A (oa_Q G O A (0, 0) (some (.int res.1)) (fun W1 => W1 = wd_O O a res.2 J)) (0, 0) 13 [(0, .ref (a 0)), (1, .int x1)] [] (wd_O O a B J) := by
  delta b_X6_peace_13 at hf
  refine ww_iload_n (pc := 13) (i := 1) C 1 dX6_peace_13 rfl rfl ?_
  refine ww_bipush (pc := 14) C dX6_peace_14 kb_99 ?_
  refine ww_icmp_ge (pc := 16) (tgt := 46) C dX6_peace_16 (by decide) (fun c6 => ?_) (fun c6 => ?_)
  · have hf := oa_ifp c6 hf
    refine ww_bipush (pc := 46) C dX6_peace_46 kb_m4 ?_
    obtain rfl := Option.some.inj hf
    exact ww_iret (pc := 48) C rfl dX6_peace_48
  · have hf := oa_ifn c6 hf
    refine ww_aload_n (pc := 19) (i := 0) C 0 dX6_peace_19 rfl rfl ?_
    refine ww_get (pc := 20) C fl_X6_16 0 rfl rfl dX6_peace_20 ?_
    refine ww_iconst (pc := 23) C dX6_peace_23 kc_1 ?_
    obtain ⟨y7, V8, e9, hf⟩ := oa_bind2 hf
    obtain ⟨B11, e12, hf⟩ := oa_letE hf
    refine ww_callV (pc := 24) (As := [.int 1]) (rest := []) (wd := wd_V O (fun i => a (i + 7)) V8) (ws' := wd_O O a B11 J) (rv := (some (.int y7))) C hY_X5_passWeeks hV_X5_passWeeks lk_X6_176 (m_X5_passWeeks _ O (fun i => a (i + 7)) (B 1) 1 _ e9) [7, 8, 9, 10, 11, 12] 7 rfl rfl rfl rfl rfl (by subst e12; rfl) (fun _ h => h) ⟨rfl, rfl⟩ ⟨Nat.zero_le _, Nat.zero_le _⟩ ⟨Nat.le_of_ble_eq_true rfl, Nat.le_of_ble_eq_true rfl⟩ rfl (Nat.le_of_ble_eq_true rfl) rfl rfl dX6_peace_24 ?_
    refine ww_pop (pc := 27) C dX6_peace_27 rfl ?_
    refine ww_aload_n (pc := 28) (i := 0) C 0 dX6_peace_28 rfl rfl ?_
    refine ww_get (pc := 29) C fl_X6_16 0 rfl rfl dX6_peace_29 ?_
    refine ww_get (pc := 32) C fl_X6_199 7 rfl rfl dX6_peace_32 ?_
    refine ww_if_ne (pc := 35) (tgt := 40) C dX6_peace_35 (by decide) (fun c13 => ?_) (fun c13 => ?_)
    · have hf := oa_ifn c13 hf
      refine ww_iinc (pc := 40) (v := (x1 + 1)) (L' := [(0, .ref (a 0)), (1, .int (x1 + 1))]) C 1 [1, 0] dX6_peace_40 rfl (ki_1 _) (Nat.le_of_ble_eq_true rfl) rfl ?_
      refine ww_goto (pc := 43) (tgt := 13) C dX6_peace_43 (by decide) ?_
      exact hk13 B11 (x1 + 1) hf
    · have hf := oa_ifp c13 hf
      refine ww_iload_n (pc := 38) (i := 1) C 1 dX6_peace_38 rfl rfl ?_
      obtain rfl := Option.some.inj hf
      exact ww_iret (pc := 39) C rfl dX6_peace_39
theorem t_l_X6_peace_13 {G : oa_G} {O : oa_O} {A : Nat → Prop} {a : Nat → Nat} {res : Int32 × oa_I3} (C : oa_C G cX6_peace 2 RX6 (some .int) rm_X6_peace O A) (J : oa_J2)    : ∀ (n : Nat) (B : oa_I3) (x1 : Int32), l_X6_peace_13 J n B x1 = some res → ww G 2 O A (oa_Q G O A (0, 0) (some (.int res.1)) (fun W1 => W1 = wd_O O a res.2 J)) (0, 0) 13 [(0, .ref (a 0)), (1, .int x1)] [] (wd_O O a B J) := by
  intro n
  induction n with
  | zero => intro B x1 hf; exact absurd (show (none : Option (Int32 × oa_I3)) = some res from hf) (fun h => nomatch h)
  | succ n ih =>
    intro B x1 hf
    exact t_b_X6_peace_13 C J  (fun B x1 => l_X6_peace_13 J n B x1)  (fun B x1 h => ih B x1 h) B x1 hf
theorem m_X6_peace (l : Launch) (O : oa_O) (a : Nat → Nat) (B : oa_I3) (J : oa_J2)  (res : Int32 × oa_I3) (hf : f_X6_peace B J = some res) : oa_M l yX6_peace cX6_peace 2 (some .int) rm_X6_peace O [.ref (a 0)] (wd_O O a B J) (some (.int res.1)) (fun W1 => W1 = wd_O O a res.2 J) := by
  refine oa_Mof (by decide) (Nat.le_of_ble_eq_true rfl) (fun G A hl C => ?_)
  subst hl
  have C : oa_C G cX6_peace 2 RX6 (some .int) rm_X6_peace O A := C
  have hf : f_X6_peace B J = some res := hf
  delta f_X6_peace at hf
  show ww G 2 O A (oa_Q G O A (0, 0) (some (.int res.1)) (fun W1 => W1 = wd_O O a res.2 J)) (0, 0) 0 [(0, .ref (a 0))] [] (wd_O O a B J)
  refine ww_aload_n (pc := 0) (i := 0) C 0 dX6_peace_0 rfl rfl ?_
  refine ww_get (pc := 1) C fl_X6_16 0 rfl rfl dX6_peace_1 ?_
  refine ww_aload_n (pc := 4) (i := 0) C 0 dX6_peace_4 rfl rfl ?_
  refine ww_get (pc := 5) C fl_X6_10 0 rfl rfl dX6_peace_5 ?_
  obtain ⟨V1, e2, hf⟩ := oa_bind hf
  obtain ⟨B4, e5, hf⟩ := oa_letE hf
  refine ww_callV (pc := 8) (As := [.ref (a 1)]) (rest := []) (wd := wd_VV O (fun i => a (i + 7)) (fun i => a (i + 1)) V1 (B 0)) (ws' := wd_O O a B4 J) (rv := none) C hY_X5_copyOf hV_X5_copyOf lk_X6_89 (m_X5_copyOf _ O (fun i => a (i + 7)) (fun i => a (i + 1)) (B 1) (B 0) _ e2) [7, 8, 9, 10, 11, 12, 1, 2, 3, 4, 5, 6] 7 rfl rfl rfl rfl rfl (by subst e5; rfl) (fun _ h => h) ⟨rfl, rfl⟩ ⟨Nat.zero_le _, Nat.zero_le _⟩ ⟨Nat.le_of_ble_eq_true rfl, Nat.le_of_ble_eq_true rfl⟩ rfl (Nat.le_of_ble_eq_true rfl) rfl rfl dX6_peace_8 ?_
  refine ww_iconst (pc := 11) C dX6_peace_11 kc_0 ?_
  refine ww_istore_n (pc := 12) (L' := [(0, .ref (a 0)), (1, .int 0)]) C [1, 0] dX6_peace_12 rfl (Nat.le_of_ble_eq_true rfl) rfl ?_
  exact t_l_X6_peace_13 C J    oa_fu B4 0 hf
theorem dX6_point_0 : decode cX6_point 0 = .ok (.aload_n 0, 1) := by decide +kernel
theorem dX6_point_1 : decode cX6_point 1 = .ok (.getfield 10, 3) := by decide +kernel
theorem dX6_point_4 : decode cX6_point 4 = .ok (.iload_n 1, 1) := by decide +kernel
theorem dX6_point_5 : decode cX6_point 5 = .ok (.iload_n 2, 1) := by decide +kernel
theorem dX6_point_6 : decode cX6_point 6 = .ok (.invokevirtual 145, 3) := by decide +kernel
theorem dX6_point_9 : decode cX6_point 9 = .ok (.ireturn, 1) := by decide +kernel
abbrev rm_X6_point : Room := { frames := 5, cells := 0, slots := 0, locals := 109 }
theorem m_X6_point (l : Launch) (O : oa_O) (a : Nat → Nat) (B : oa_I3) (J : oa_J2) (x1 : Int32) (x2 : Int32) (res : Int32 × oa_I3) (hf : f_X6_point B J x1 x2 = some res) : oa_M l yX6_point cX6_point 3 (some .int) rm_X6_point O [.ref (a 0), .int x1, .int x2] (wd_O O a B J) (some (.int res.1)) (fun W1 => W1 = wd_O O a res.2 J) := by
  refine oa_Mof (by decide) (Nat.le_of_ble_eq_true rfl) (fun G A hl C => ?_)
  subst hl
  have C : oa_C G cX6_point 3 RX6 (some .int) rm_X6_point O A := C
  have hf : f_X6_point B J x1 x2 = some res := hf
  delta f_X6_point at hf
  show ww G 3 O A (oa_Q G O A (0, 0) (some (.int res.1)) (fun W1 => W1 = wd_O O a res.2 J)) (0, 0) 0 [(0, .ref (a 0)), (1, .int x1), (2, .int x2)] [] (wd_O O a B J)
  refine ww_aload_n (pc := 0) (i := 0) C 0 dX6_point_0 rfl rfl ?_
  refine ww_get (pc := 1) C fl_X6_10 0 rfl rfl dX6_point_1 ?_
  refine ww_iload_n (pc := 4) (i := 1) C 1 dX6_point_4 rfl rfl ?_
  refine ww_iload_n (pc := 5) (i := 2) C 2 dX6_point_5 rfl rfl ?_
  obtain ⟨y1, V2, e3, hf⟩ := oa_bind2 hf
  obtain ⟨B5, e6, hf⟩ := oa_letE hf
  refine ww_callV (pc := 6) (As := [.int x1, .int x2]) (rest := []) (wd := wd_V O (fun i => a (i + 1)) V2) (ws' := wd_O O a B5 J) (rv := (some (.int y1))) C hY_X5_begin hV_X5_begin lk_X6_145 (m_X5_begin _ O (fun i => a (i + 1)) (B 0) x1 x2 _ e3) [1, 2, 3, 4, 5, 6] 1 rfl rfl rfl rfl rfl (by subst e6; rfl) (fun _ h => h) ⟨rfl, rfl⟩ ⟨Nat.zero_le _, Nat.zero_le _⟩ ⟨Nat.le_of_ble_eq_true rfl, Nat.le_of_ble_eq_true rfl⟩ rfl (Nat.le_of_ble_eq_true rfl) rfl rfl dX6_point_6 ?_
  obtain rfl := Option.some.inj hf
  exact ww_iret (pc := 9) C rfl dX6_point_9
theorem dX6_price_0 : decode cX6_price 0 = .ok (.aload_n 0, 1) := by decide +kernel
theorem dX6_price_1 : decode cX6_price 1 = .ok (.getfield 10, 3) := by decide +kernel
theorem dX6_price_4 : decode cX6_price 4 = .ok (.iload_n 1, 1) := by decide +kernel
theorem dX6_price_5 : decode cX6_price 5 = .ok (.invokevirtual 104, 3) := by decide +kernel
theorem dX6_price_8 : decode cX6_price 8 = .ok (.ifCond .ne 5, 3) := by decide +kernel
theorem dX6_price_11 : decode cX6_price 11 = .ok (.iconst (-1), 1) := by decide +kernel
theorem dX6_price_12 : decode cX6_price 12 = .ok (.ireturn, 1) := by decide +kernel
theorem dX6_price_13 : decode cX6_price 13 = .ok (.iconst 0, 1) := by decide +kernel
theorem dX6_price_14 : decode cX6_price 14 = .ok (.istore_n 2, 1) := by decide +kernel
theorem dX6_price_15 : decode cX6_price 15 = .ok (.iload_n 2, 1) := by decide +kernel
theorem dX6_price_16 : decode cX6_price 16 = .ok (.bipush 99, 2) := by decide +kernel
theorem dX6_price_18 : decode cX6_price 18 = .ok (.if_icmp .gt 27, 3) := by decide +kernel
theorem dX6_price_21 : decode cX6_price 21 = .ok (.aload_n 0, 1) := by decide +kernel
theorem dX6_price_22 : decode cX6_price 22 = .ok (.getfield 10, 3) := by decide +kernel
theorem dX6_price_25 : decode cX6_price 25 = .ok (.iload_n 1, 1) := by decide +kernel
theorem dX6_price_26 : decode cX6_price 26 = .ok (.aload_n 0, 1) := by decide +kernel
theorem dX6_price_27 : decode cX6_price 27 = .ok (.iload_n 2, 1) := by decide +kernel
theorem dX6_price_28 : decode cX6_price 28 = .ok (.invokevirtual 229, 3) := by decide +kernel
theorem dX6_price_31 : decode cX6_price 31 = .ok (.invokevirtual 236, 3) := by decide +kernel
theorem dX6_price_34 : decode cX6_price 34 = .ok (.ifCond .eq 5, 3) := by decide +kernel
theorem dX6_price_37 : decode cX6_price 37 = .ok (.iload_n 2, 1) := by decide +kernel
theorem dX6_price_38 : decode cX6_price 38 = .ok (.ireturn, 1) := by decide +kernel
theorem dX6_price_39 : decode cX6_price 39 = .ok (.iinc 2 1, 3) := by decide +kernel
theorem dX6_price_42 : decode cX6_price 42 = .ok (.goto (-27), 3) := by decide +kernel
theorem dX6_price_45 : decode cX6_price 45 = .ok (.bipush (-4), 2) := by decide +kernel
theorem dX6_price_47 : decode cX6_price 47 = .ok (.ireturn, 1) := by decide +kernel
abbrev rm_X6_price : Room := { frames := 6, cells := 0, slots := 0, locals := 141 }
theorem t_b_X6_price_15 {G : oa_G} {O : oa_O} {A : Nat → Prop} {a : Nat → Nat} {res : Int32} (C : oa_C G cX6_price 3 RX6 (some .int) rm_X6_price O A) (B : oa_I3) (J : oa_J2) (x1 : Int32)    (k15 : Int32 → Option (Int32))  (hk15 : ∀ (b_x2 : Int32), k15 b_x2 = some res → ww G 3 O A (oa_Q G O A (0, 0) (some (.int res)) (fun W1 => W1 = wd_O O a B J)) (0, 0) 15 [(0, .ref (a 0)), (1, .int x1), (2, .int b_x2)] [] (wd_O O a B J)) (x2 : Int32) (hf : b_X6_price_15 B J x1 k15 x2 = some res) : ww G 3 O A (oa_Q G O A (0, 0) (some (.int res)) (fun W1 => W1 = wd_O O a B J)) (0, 0) 15 [(0, .ref (a 0)), (1, .int x1), (2, .int x2)] [] (wd_O O a B J) := by
  delta b_X6_price_15 at hf
  refine ww_iload_n (pc := 15) (i := 2) C 2 dX6_price_15 rfl rfl ?_
  refine ww_bipush (pc := 16) C dX6_price_16 kb_99 ?_
  refine ww_icmp_gt (pc := 18) (tgt := 45) C dX6_price_18 (by decide) (fun c5 => ?_) (fun c5 => ?_)
  · have hf := oa_ifp c5 hf
    refine ww_bipush (pc := 45) C dX6_price_45 kb_m4 ?_
    obtain rfl := Option.some.inj hf
    exact ww_iret (pc := 47) C rfl dX6_price_47
  · have hf := oa_ifn c5 hf
    refine ww_aload_n (pc := 21) (i := 0) C 0 dX6_price_21 rfl rfl ?_
    refine ww_get (pc := 22) C fl_X6_10 0 rfl rfl dX6_price_22 ?_
    refine ww_iload_n (pc := 25) (i := 1) C 1 dX6_price_25 rfl rfl ?_
    refine ww_aload_n (pc := 26) (i := 0) C 0 dX6_price_26 rfl rfl ?_
    refine ww_iload_n (pc := 27) (i := 2) C 2 dX6_price_27 rfl rfl ?_
    obtain ⟨y6, e7, hf⟩ := oa_bind hf
    refine ww_callV (pc := 28) (As := [.int x2]) (rest := [.int x1, .ref (a 1)]) (wd := wd_O O a B J) (ws' := wd_O O a B J) (rv := (some (.int y6))) C hY_X6_hiredCost hV_X6_hiredCost lk_X6_229 (m_X6_hiredCost _ O a B J x2 _ e7) [0, 1, 2, 3, 4, 5, 6, 7, 8, 9, 10, 11, 12, 13, 14, 15, 16, 17, 18, 19, 20, 21, 22, 23, 24, 25, 26, 27, 28, 29, 30, 31, 32, 33, 34, 35, 36, 37, 38, 39, 40, 41, 42, 43, 44, 45, 46, 47, 48, 49] 0 rfl rfl rfl rfl rfl (oa_putS _ _ _ rfl) (fun _ h => h) ⟨rfl, rfl⟩ ⟨Nat.zero_le _, Nat.zero_le _⟩ ⟨Nat.le_of_ble_eq_true rfl, Nat.le_of_ble_eq_true rfl⟩ rfl (Nat.le_of_ble_eq_true rfl) rfl rfl dX6_price_28 ?_
    obtain ⟨y9, e10, hf⟩ := oa_bind hf
    refine ww_callV (pc := 31) (As := [.int x1, .int y6]) (rest := []) (wd := wd_V O (fun i => a (i + 1)) (B 0)) (ws' := wd_O O a B J) (rv := (some (.int y9))) C hY_X5_isSafeFor hV_X5_isSafeFor lk_X6_236 (m_X5_isSafeFor _ O (fun i => a (i + 1)) (B 0) x1 y6 _ e10) [1, 2, 3, 4, 5, 6] 1 rfl rfl rfl rfl rfl (oa_putS _ _ _ rfl) (fun _ h => h) ⟨rfl, rfl⟩ ⟨Nat.zero_le _, Nat.zero_le _⟩ ⟨Nat.le_of_ble_eq_true rfl, Nat.le_of_ble_eq_true rfl⟩ rfl (Nat.le_of_ble_eq_true rfl) rfl rfl dX6_price_31 ?_
    refine ww_if_eq (pc := 34) (tgt := 39) C dX6_price_34 (by decide) (fun c12 => ?_) (fun c12 => ?_)
    · have hf := oa_ifp c12 hf
      refine ww_iinc (pc := 39) (v := (x2 + 1)) (L' := [(0, .ref (a 0)), (1, .int x1), (2, .int (x2 + 1))]) C 2 [1, 2, 0] dX6_price_39 rfl (ki_1 _) (Nat.le_of_ble_eq_true rfl) rfl ?_
      refine ww_goto (pc := 42) (tgt := 15) C dX6_price_42 (by decide) ?_
      exact hk15 (x2 + 1) hf
    · have hf := oa_ifn c12 hf
      refine ww_iload_n (pc := 37) (i := 2) C 2 dX6_price_37 rfl rfl ?_
      obtain rfl := Option.some.inj hf
      exact ww_iret (pc := 38) C rfl dX6_price_38
theorem t_l_X6_price_15 {G : oa_G} {O : oa_O} {A : Nat → Prop} {a : Nat → Nat} {res : Int32} (C : oa_C G cX6_price 3 RX6 (some .int) rm_X6_price O A) (B : oa_I3) (J : oa_J2) (x1 : Int32)    : ∀ (n : Nat) (x2 : Int32), l_X6_price_15 B J x1 n x2 = some res → ww G 3 O A (oa_Q G O A (0, 0) (some (.int res)) (fun W1 => W1 = wd_O O a B J)) (0, 0) 15 [(0, .ref (a 0)), (1, .int x1), (2, .int x2)] [] (wd_O O a B J) := by
  intro n
  induction n with
  | zero => intro x2 hf; exact absurd (show (none : Option (Int32)) = some res from hf) (fun h => nomatch h)
  | succ n ih =>
    intro x2 hf
    exact t_b_X6_price_15 C B J x1  (fun x2 => l_X6_price_15 B J x1 n x2)  (fun x2 h => ih x2 h) x2 hf
theorem m_X6_price (l : Launch) (O : oa_O) (a : Nat → Nat) (B : oa_I3) (J : oa_J2) (x1 : Int32) (res : Int32) (hf : f_X6_price B J x1 = some res) : oa_M l yX6_price cX6_price 3 (some .int) rm_X6_price O [.ref (a 0), .int x1] (wd_O O a B J) (some (.int res)) (fun W1 => W1 = wd_O O a B J) := by
  refine oa_Mof (by decide) (Nat.le_of_ble_eq_true rfl) (fun G A hl C => ?_)
  subst hl
  have C : oa_C G cX6_price 3 RX6 (some .int) rm_X6_price O A := C
  have hf : f_X6_price B J x1 = some res := hf
  delta f_X6_price at hf
  show ww G 3 O A (oa_Q G O A (0, 0) (some (.int res)) (fun W1 => W1 = wd_O O a B J)) (0, 0) 0 [(0, .ref (a 0)), (1, .int x1)] [] (wd_O O a B J)
  refine ww_aload_n (pc := 0) (i := 0) C 0 dX6_price_0 rfl rfl ?_
  refine ww_get (pc := 1) C fl_X6_10 0 rfl rfl dX6_price_1 ?_
  refine ww_iload_n (pc := 4) (i := 1) C 1 dX6_price_4 rfl rfl ?_
  obtain ⟨y1, e2, hf⟩ := oa_bind hf
  refine ww_callV (pc := 5) (As := [.int x1]) (rest := []) (wd := wd_V O (fun i => a (i + 1)) (B 0)) (ws' := wd_O O a B J) (rv := (some (.int y1))) C hY_X5_has hV_X5_has lk_X6_104 (m_X5_has _ O (fun i => a (i + 1)) (B 0) x1 _ e2) [1, 2, 3, 4, 5, 6] 1 rfl rfl rfl rfl rfl (oa_putS _ _ _ rfl) (fun _ h => h) ⟨rfl, rfl⟩ ⟨Nat.zero_le _, Nat.zero_le _⟩ ⟨Nat.le_of_ble_eq_true rfl, Nat.le_of_ble_eq_true rfl⟩ rfl (Nat.le_of_ble_eq_true rfl) rfl rfl dX6_price_5 ?_
  refine ww_if_ne (pc := 8) (tgt := 13) C dX6_price_8 (by decide) (fun c4 => ?_) (fun c4 => ?_)
  · have hf := oa_ifn c4 hf
    refine ww_iconst (pc := 13) C dX6_price_13 kc_0 ?_
    refine ww_istore_n (pc := 14) (L' := [(0, .ref (a 0)), (1, .int x1), (2, .int 0)]) C [1, 2, 0] dX6_price_14 rfl (Nat.le_of_ble_eq_true rfl) rfl ?_
    exact t_l_X6_price_15 C B J x1    oa_fu 0 hf
  · have hf := oa_ifp c4 hf
    refine ww_iconst (pc := 11) C dX6_price_11 kc_m1 ?_
    obtain rfl := Option.some.inj hf
    exact ww_iret (pc := 12) C rfl dX6_price_12
theorem dX6_read_0 : decode cX6_read 0 = .ok (.iload_n 1, 1) := by decide +kernel
theorem dX6_read_1 : decode cX6_read 1 = .ok (.iconst 0, 1) := by decide +kernel
theorem dX6_read_2 : decode cX6_read 2 = .ok (.iconst 3, 1) := by decide +kernel
theorem dX6_read_3 : decode cX6_read 3 = .ok (.invokestatic 96, 3) := by decide +kernel
theorem dX6_read_6 : decode cX6_read 6 = .ok (.ifCond .eq 23, 3) := by decide +kernel
theorem dX6_read_9 : decode cX6_read 9 = .ok (.iload_n 2, 1) := by decide +kernel
theorem dX6_read_10 : decode cX6_read 10 = .ok (.iconst 0, 1) := by decide +kernel
theorem dX6_read_11 : decode cX6_read 11 = .ok (.iconst 2, 1) := by decide +kernel
theorem dX6_read_12 : decode cX6_read 12 = .ok (.invokestatic 96, 3) := by decide +kernel
theorem dX6_read_15 : decode cX6_read 15 = .ok (.ifCond .eq 14, 3) := by decide +kernel
theorem dX6_read_18 : decode cX6_read 18 = .ok (.iload 4, 2) := by decide +kernel
theorem dX6_read_20 : decode cX6_read 20 = .ok (.iconst 0, 1) := by decide +kernel
theorem dX6_read_21 : decode cX6_read 21 = .ok (.bipush 12, 2) := by decide +kernel
theorem dX6_read_23 : decode cX6_read 23 = .ok (.invokestatic 96, 3) := by decide +kernel
theorem dX6_read_26 : decode cX6_read 26 = .ok (.ifCond .ne 5, 3) := by decide +kernel
theorem dX6_read_29 : decode cX6_read 29 = .ok (.iconst (-1), 1) := by decide +kernel
theorem dX6_read_30 : decode cX6_read 30 = .ok (.ireturn, 1) := by decide +kernel
theorem dX6_read_31 : decode cX6_read 31 = .ok (.aload_n 0, 1) := by decide +kernel
theorem dX6_read_32 : decode cX6_read 32 = .ok (.getfield 36, 3) := by decide +kernel
theorem dX6_read_35 : decode cX6_read 35 = .ok (.iload_n 1, 1) := by decide +kernel
theorem dX6_read_36 : decode cX6_read 36 = .ok (.aaload, 1) := by decide +kernel
theorem dX6_read_37 : decode cX6_read 37 = .ok (.astore 5, 2) := by decide +kernel
theorem dX6_read_39 : decode cX6_read 39 = .ok (.iload 4, 2) := by decide +kernel
theorem dX6_read_41 : decode cX6_read 41 = .ok (.ifCond .ne 7, 3) := by decide +kernel
theorem dX6_read_44 : decode cX6_read 44 = .ok (.iconst 0, 1) := by decide +kernel
theorem dX6_read_45 : decode cX6_read 45 = .ok (.goto 9, 3) := by decide +kernel
theorem dX6_read_48 : decode cX6_read 48 = .ok (.aload 5, 2) := by decide +kernel
theorem dX6_read_50 : decode cX6_read 50 = .ok (.iload_n 2, 1) := by decide +kernel
theorem dX6_read_51 : decode cX6_read 51 = .ok (.invokevirtual 277, 3) := by decide +kernel
theorem dX6_read_54 : decode cX6_read 54 = .ok (.istore 6, 2) := by decide +kernel
theorem dX6_read_56 : decode cX6_read 56 = .ok (.iconst 0, 1) := by decide +kernel
theorem dX6_read_57 : decode cX6_read 57 = .ok (.istore 7, 2) := by decide +kernel
theorem dX6_read_59 : decode cX6_read 59 = .ok (.aload_n 0, 1) := by decide +kernel
theorem dX6_read_60 : decode cX6_read 60 = .ok (.getfield 16, 3) := by decide +kernel
theorem dX6_read_63 : decode cX6_read 63 = .ok (.aload_n 0, 1) := by decide +kernel
theorem dX6_read_64 : decode cX6_read 64 = .ok (.getfield 10, 3) := by decide +kernel
theorem dX6_read_67 : decode cX6_read 67 = .ok (.invokevirtual 89, 3) := by decide +kernel
theorem dX6_read_70 : decode cX6_read 70 = .ok (.iconst 0, 1) := by decide +kernel
theorem dX6_read_71 : decode cX6_read 71 = .ok (.istore 8, 2) := by decide +kernel
theorem dX6_read_73 : decode cX6_read 73 = .ok (.iload 8, 2) := by decide +kernel
theorem dX6_read_75 : decode cX6_read 75 = .ok (.iload 4, 2) := by decide +kernel
theorem dX6_read_77 : decode cX6_read 77 = .ok (.if_icmp .ge 93, 3) := by decide +kernel
theorem dX6_read_80 : decode cX6_read 80 = .ok (.iload 6, 2) := by decide +kernel
theorem dX6_read_82 : decode cX6_read 82 = .ok (.ifCond .ne 88, 3) := by decide +kernel
theorem dX6_read_85 : decode cX6_read 85 = .ok (.iload_n 3, 1) := by decide +kernel
theorem dX6_read_86 : decode cX6_read 86 = .ok (.i2l, 1) := by decide +kernel
theorem dX6_read_87 : decode cX6_read 87 = .ok (.ldc2_w 280, 3) := by decide +kernel
theorem dX6_read_90 : decode cX6_read 90 = .ok (.iload 8, 2) := by decide +kernel
theorem dX6_read_92 : decode cX6_read 92 = .ok (.i2l, 1) := by decide +kernel
theorem dX6_read_93 : decode cX6_read 93 = .ok (.lmul, 1) := by decide +kernel
theorem dX6_read_94 : decode cX6_read 94 = .ok (.ladd, 1) := by decide +kernel
theorem dX6_read_95 : decode cX6_read 95 = .ok (.lstore 9, 2) := by decide +kernel
theorem dX6_read_97 : decode cX6_read 97 = .ok (.aload 5, 2) := by decide +kernel
theorem dX6_read_99 : decode cX6_read 99 = .ok (.lload 9, 2) := by decide +kernel
theorem dX6_read_101 : decode cX6_read 101 = .ok (.invokevirtual 282, 3) := by decide +kernel
theorem dX6_read_104 : decode cX6_read 104 = .ok (.ifCond .eq 15, 3) := by decide +kernel
theorem dX6_read_107 : decode cX6_read 107 = .ok (.aload 5, 2) := by decide +kernel
theorem dX6_read_109 : decode cX6_read 109 = .ok (.lload 9, 2) := by decide +kernel
theorem dX6_read_111 : decode cX6_read 111 = .ok (.lconst 1, 1) := by decide +kernel
theorem dX6_read_112 : decode cX6_read 112 = .ok (.ladd, 1) := by decide +kernel
theorem dX6_read_113 : decode cX6_read 113 = .ok (.invokevirtual 282, 3) := by decide +kernel
theorem dX6_read_116 : decode cX6_read 116 = .ok (.ifCond .ne 9, 3) := by decide +kernel
theorem dX6_read_119 : decode cX6_read 119 = .ok (.iconst 2, 1) := by decide +kernel
theorem dX6_read_120 : decode cX6_read 120 = .ok (.istore 6, 2) := by decide +kernel
theorem dX6_read_122 : decode cX6_read 122 = .ok (.goto 42, 3) := by decide +kernel
theorem dX6_read_125 : decode cX6_read 125 = .ok (.aload_n 0, 1) := by decide +kernel
theorem dX6_read_126 : decode cX6_read 126 = .ok (.getfield 16, 3) := by decide +kernel
theorem dX6_read_129 : decode cX6_read 129 = .ok (.aload 5, 2) := by decide +kernel
theorem dX6_read_131 : decode cX6_read 131 = .ok (.getfield 286, 3) := by decide +kernel
theorem dX6_read_134 : decode cX6_read 134 = .ok (.lload 9, 2) := by decide +kernel
theorem dX6_read_136 : decode cX6_read 136 = .ok (.l2i, 1) := by decide +kernel
theorem dX6_read_137 : decode cX6_read 137 = .ok (.iaload, 1) := by decide +kernel
theorem dX6_read_138 : decode cX6_read 138 = .ok (.aload 5, 2) := by decide +kernel
theorem dX6_read_140 : decode cX6_read 140 = .ok (.getfield 286, 3) := by decide +kernel
theorem dX6_read_143 : decode cX6_read 143 = .ok (.lload 9, 2) := by decide +kernel
theorem dX6_read_145 : decode cX6_read 145 = .ok (.l2i, 1) := by decide +kernel
theorem dX6_read_146 : decode cX6_read 146 = .ok (.iconst 1, 1) := by decide +kernel
theorem dX6_read_147 : decode cX6_read 147 = .ok (.iadd, 1) := by decide +kernel
theorem dX6_read_148 : decode cX6_read 148 = .ok (.iaload, 1) := by decide +kernel
theorem dX6_read_149 : decode cX6_read 149 = .ok (.invokevirtual 145, 3) := by decide +kernel
theorem dX6_read_152 : decode cX6_read 152 = .ok (.ifCond .ge 9, 3) := by decide +kernel
theorem dX6_read_155 : decode cX6_read 155 = .ok (.bipush (-20), 2) := by decide +kernel
theorem dX6_read_157 : decode cX6_read 157 = .ok (.iload 8, 2) := by decide +kernel
theorem dX6_read_159 : decode cX6_read 159 = .ok (.isub, 1) := by decide +kernel
theorem dX6_read_160 : decode cX6_read 160 = .ok (.ireturn, 1) := by decide +kernel
theorem dX6_read_161 : decode cX6_read 161 = .ok (.iinc 7 1, 3) := by decide +kernel
theorem dX6_read_164 : decode cX6_read 164 = .ok (.iinc 8 1, 3) := by decide +kernel
theorem dX6_read_167 : decode cX6_read 167 = .ok (.goto (-94), 3) := by decide +kernel
theorem dX6_read_170 : decode cX6_read 170 = .ok (.aload_n 0, 1) := by decide +kernel
theorem dX6_read_171 : decode cX6_read 171 = .ok (.getfield 10, 3) := by decide +kernel
theorem dX6_read_174 : decode cX6_read 174 = .ok (.aload_n 0, 1) := by decide +kernel
theorem dX6_read_175 : decode cX6_read 175 = .ok (.getfield 16, 3) := by decide +kernel
theorem dX6_read_178 : decode cX6_read 178 = .ok (.invokevirtual 89, 3) := by decide +kernel
theorem dX6_read_181 : decode cX6_read 181 = .ok (.aload_n 0, 1) := by decide +kernel
theorem dX6_read_182 : decode cX6_read 182 = .ok (.iload 6, 2) := by decide +kernel
theorem dX6_read_184 : decode cX6_read 184 = .ok (.putfield 65, 3) := by decide +kernel
theorem dX6_read_187 : decode cX6_read 187 = .ok (.iload 7, 2) := by decide +kernel
theorem dX6_read_189 : decode cX6_read 189 = .ok (.ireturn, 1) := by decide +kernel
abbrev rm_X6_read : Room := { frames := 5, cells := 0, slots := 0, locals := 109 }
theorem t_b_X6_read_170 {G : oa_G} {O : oa_O} {A : Nat → Prop} {a : Nat → Nat} {res : Int32 × oa_I3} (C : oa_C G cX6_read 11 RX6 (some .int) rm_X6_read O A) (J : oa_J2) (x1 : Int32) (x2 : Int32) (x3 : Int32) (x4 : Int32)  (B : oa_I3) (x6 : Int32) (x7 : Int32)    (hf : b_X6_read_170 J x1 x2 x3 x4 B x6 x7 = some res) : ww G 11 O A (oa_Q G O A (0, 0) (some (.int res.1)) (fun W1 => W1 = wd_O O a res.2 J)) (0, 0) 170 [(0, .ref (a 0)), (6, .int x6), (7, .int x7)] [] (wd_O O a B J) := by
  delta b_X6_read_170 at hf
  refine ww_aload_n (pc := 170) (i := 0) C 0 dX6_read_170 rfl rfl ?_
  refine ww_get (pc := 171) C fl_X6_10 0 rfl rfl dX6_read_171 ?_
  refine ww_aload_n (pc := 174) (i := 0) C 0 dX6_read_174 rfl rfl ?_
  refine ww_get (pc := 175) C fl_X6_16 0 rfl rfl dX6_read_175 ?_
  obtain ⟨V145, e146, hf⟩ := oa_bind hf
  obtain ⟨B148, e149, hf⟩ := oa_letE hf
  refine ww_callV (pc := 178) (As := [.ref (a 7)]) (rest := []) (wd := wd_VV O (fun i => a (i + 1)) (fun i => a (i + 7)) V145 (B 1)) (ws' := wd_O O a B148 J) (rv := none) C hY_X5_copyOf hV_X5_copyOf lk_X6_89 (m_X5_copyOf _ O (fun i => a (i + 1)) (fun i => a (i + 7)) (B 0) (B 1) _ e146) [1, 2, 3, 4, 5, 6, 7, 8, 9, 10, 11, 12] 1 rfl rfl rfl rfl rfl (by subst e149; rfl) (fun _ h => h) ⟨rfl, rfl⟩ ⟨Nat.zero_le _, Nat.zero_le _⟩ ⟨Nat.le_of_ble_eq_true rfl, Nat.le_of_ble_eq_true rfl⟩ rfl (Nat.le_of_ble_eq_true rfl) rfl rfl dX6_read_178 ?_
  refine ww_aload_n (pc := 181) (i := 0) C 0 dX6_read_181 rfl rfl ?_
  refine ww_iload (pc := 182) (i := 6) C 1 dX6_read_182 rfl ?_
  obtain ⟨B150, e151, hf⟩ := oa_letE hf
  refine ww_put (pc := 184) C fl_X6_65 (fun Z => wd_O O a Z J) 0 rfl rfl rfl (Nat.le_of_ble_eq_true rfl) e151 rfl dX6_read_184 ?_
  refine ww_iload (pc := 187) (i := 7) C 2 dX6_read_187 rfl ?_
  obtain rfl := Option.some.inj hf
  exact ww_iret (pc := 189) C rfl dX6_read_189
theorem t_b_X6_read_73_42 {G : oa_G} {O : oa_O} {A : Nat → Prop} {a : Nat → Nat} {res : Int32 × oa_I3} (C : oa_C G cX6_read 11 RX6 (some .int) rm_X6_read O A) (J : oa_J2) (x1 : Int32) (x2 : Int32) (x3 : Int32) (x4 : Int32)    (k73 : oa_I3 → Int32 → Int32 → Int32 → Option (Int32 × oa_I3))  (hk73 : ∀ (b_B : oa_I3) (b_x6 : Int32) (b_x7 : Int32) (b_x8 : Int32), k73 b_B b_x6 b_x7 b_x8 = some res → ww G 11 O A (oa_Q G O A (0, 0) (some (.int res.1)) (fun W1 => W1 = wd_O O a res.2 J)) (0, 0) 73 [(0, .ref (a 0)), (3, .int x3), (4, .int x4), (5, .ref (a 42)), (6, .int b_x6), (7, .int b_x7), (8, .int b_x8)] [] (wd_O O a b_B J)) (B : oa_I3) (x6 : Int32) (x7 : Int32) (x8 : Int32) (hf : b_X6_read_73_42 J x1 x2 x3 x4 k73 B x6 x7 x8 = some res) : ww G 11 O A (oa_Q G O A (0, 0) (some (.int res.1)) (fun W1 => W1 = wd_O O a res.2 J)) (0, 0) 73 [(0, .ref (a 0)), (3, .int x3), (4, .int x4), (5, .ref (a 42)), (6, .int x6), (7, .int x7), (8, .int x8)] [] (wd_O O a B J) := by
  delta b_X6_read_73_42 at hf
  refine ww_iload (pc := 73) (i := 8) C 6 dX6_read_73 rfl ?_
  refine ww_iload (pc := 75) (i := 4) C 2 dX6_read_75 rfl ?_
  refine ww_icmp_ge (pc := 77) (tgt := 170) C dX6_read_77 (by decide) (fun c53 => ?_) (fun c53 => ?_)
  · have hf := oa_ifp c53 hf
    refine ww_sub C [0, 4, 5] rfl ?_
    exact t_b_X6_read_170 C J x1 x2 x3 x4 B x6 x7   hf
  · have hf := oa_ifn c53 hf
    refine ww_iload (pc := 80) (i := 6) C 4 dX6_read_80 rfl ?_
    refine ww_if_ne (pc := 82) (tgt := 170) C dX6_read_82 (by decide) (fun c54 => ?_) (fun c54 => ?_)
    · have hf := oa_ifn c54 hf
      refine ww_sub C [0, 4, 5] rfl ?_
      exact t_b_X6_read_170 C J x1 x2 x3 x4 B x6 x7   hf
    · have hf := oa_ifp c54 hf
      refine ww_iload_n (pc := 85) (i := 3) C 1 dX6_read_85 rfl rfl ?_
      refine ww_i2l (pc := 86) C dX6_read_86 ?_
      refine ww_ldc2 (pc := 87) C cw_X6_280 dX6_read_87 ?_
      refine ww_iload (pc := 90) (i := 8) C 6 dX6_read_90 rfl ?_
      refine ww_i2l (pc := 92) C dX6_read_92 ?_
      refine ww_lmul (pc := 93) C dX6_read_93 ?_
      refine ww_ladd (pc := 94) C dX6_read_94 ?_
      obtain ⟨y55, e56, hf⟩ := oa_letE hf
      refine ww_topl C e56 ?_
      refine ww_lstore (pc := 95) (L' := [(0, .ref (a 0)), (3, .int x3), (4, .int x4), (5, .ref (a 42)), (6, .int x6), (7, .int x7), (8, .int x8), (9, .long y55)]) C [1, 2, 3, 4, 5, 6, 7, 0] dX6_read_95 (Nat.le_of_ble_eq_true rfl) rfl ?_
      refine ww_aload (pc := 97) (i := 5) C 3 dX6_read_97 rfl ?_
      refine ww_lload (pc := 99) (i := 9) C 7 dX6_read_99 rfl ?_
      obtain ⟨y57, e58, hf⟩ := oa_bind hf
      refine ww_callV (pc := 101) (As := [.long y55]) (rest := []) (wd := wd_S O (fun i => a (i + 42)) (B 7)) (ws' := wd_O O a B J) (rv := (some (.int y57))) C hY_X3_hasCell hV_X3_hasCell lk_X6_282 (m_X3_hasCell _ O (fun i => a (i + 42)) (B 7) y55 _ e58) [42, 43] 42 rfl rfl rfl rfl rfl (oa_putS _ _ _ rfl) (fun _ h => h) ⟨rfl, rfl⟩ ⟨Nat.zero_le _, Nat.zero_le _⟩ ⟨Nat.le_of_ble_eq_true rfl, Nat.le_of_ble_eq_true rfl⟩ rfl (Nat.le_of_ble_eq_true rfl) rfl rfl dX6_read_101 ?_
      refine ww_if_eq (pc := 104) (tgt := 119) C dX6_read_104 (by decide) (fun c60 => ?_) (fun c60 => ?_)
      · have hf := oa_ifp c60 hf
        refine ww_iconst (pc := 119) C dX6_read_119 kc_2 ?_
        refine ww_istore (pc := 120) (L' := [(0, .ref (a 0)), (3, .int x3), (4, .int x4), (5, .ref (a 42)), (6, .int 2), (7, .int x7), (8, .int x8), (9, .long y55)]) C [1, 2, 3, 4, 0, 5, 6, 7] dX6_read_120 (Nat.le_of_ble_eq_true rfl) rfl ?_
        refine ww_goto (pc := 122) (tgt := 164) C dX6_read_122 (by decide) ?_
        refine ww_iinc (pc := 164) (v := (x8 + 1)) (L' := [(0, .ref (a 0)), (3, .int x3), (4, .int x4), (5, .ref (a 42)), (6, .int 2), (7, .int x7), (8, .int (x8 + 1)), (9, .long y55)]) C 6 [1, 2, 3, 4, 5, 6, 0, 7] dX6_read_164 rfl (ki_1 _) (Nat.le_of_ble_eq_true rfl) rfl ?_
        refine ww_goto (pc := 167) (tgt := 73) C dX6_read_167 (by decide) ?_
        refine ww_sub C [0, 1, 2, 3, 4, 5, 6] rfl ?_
        exact hk73 B 2 x7 (x8 + 1) hf
      · have hf := oa_ifn c60 hf
        refine ww_aload (pc := 107) (i := 5) C 3 dX6_read_107 rfl ?_
        refine ww_lload (pc := 109) (i := 9) C 7 dX6_read_109 rfl ?_
        refine ww_lconst (pc := 111) C dX6_read_111 kl_1 ?_
        refine ww_ladd (pc := 112) C dX6_read_112 ?_
        obtain ⟨y61, e62, hf⟩ := oa_bind hf
        refine ww_callV (pc := 113) (As := [.long (y55 + 1)]) (rest := []) (wd := wd_S O (fun i => a (i + 42)) (B 7)) (ws' := wd_O O a B J) (rv := (some (.int y61))) C hY_X3_hasCell hV_X3_hasCell lk_X6_282 (m_X3_hasCell _ O (fun i => a (i + 42)) (B 7) (y55 + 1) _ e62) [42, 43] 42 rfl rfl rfl rfl rfl (oa_putS _ _ _ rfl) (fun _ h => h) ⟨rfl, rfl⟩ ⟨Nat.zero_le _, Nat.zero_le _⟩ ⟨Nat.le_of_ble_eq_true rfl, Nat.le_of_ble_eq_true rfl⟩ rfl (Nat.le_of_ble_eq_true rfl) rfl rfl dX6_read_113 ?_
        refine ww_if_ne (pc := 116) (tgt := 125) C dX6_read_116 (by decide) (fun c64 => ?_) (fun c64 => ?_)
        · have hf := oa_ifn c64 hf
          refine ww_aload_n (pc := 125) (i := 0) C 0 dX6_read_125 rfl rfl ?_
          refine ww_get (pc := 126) C fl_X6_16 0 rfl rfl dX6_read_126 ?_
          refine ww_aload (pc := 129) (i := 5) C 3 dX6_read_129 rfl ?_
          refine ww_get (pc := 131) C fl_X6_286 42 rfl rfl dX6_read_131 ?_
          refine ww_lload (pc := 134) (i := 9) C 7 dX6_read_134 rfl ?_
          refine ww_l2i (pc := 136) C dX6_read_136 ?_
          obtain ⟨y65, e66, hf⟩ := oa_bind hf
          refine ww_iald (pc := 137) C 43 rfl e66 dX6_read_137 ?_
          refine ww_aload (pc := 138) (i := 5) C 3 dX6_read_138 rfl ?_
          refine ww_get (pc := 140) C fl_X6_286 42 rfl rfl dX6_read_140 ?_
          refine ww_lload (pc := 143) (i := 9) C 7 dX6_read_143 rfl ?_
          refine ww_l2i (pc := 145) C dX6_read_145 ?_
          refine ww_iconst (pc := 146) C dX6_read_146 kc_1 ?_
          refine ww_iadd (pc := 147) C dX6_read_147 ?_
          obtain ⟨y67, e68, hf⟩ := oa_bind hf
          refine ww_iald (pc := 148) C 43 rfl e68 dX6_read_148 ?_
          obtain ⟨y69, V70, e71, hf⟩ := oa_bind2 hf
          obtain ⟨B73, e74, hf⟩ := oa_letE hf
          refine ww_callV (pc := 149) (As := [.int y65, .int y67]) (rest := []) (wd := wd_V O (fun i => a (i + 7)) V70) (ws' := wd_O O a B73 J) (rv := (some (.int y69))) C hY_X5_begin hV_X5_begin lk_X6_145 (m_X5_begin _ O (fun i => a (i + 7)) (B 1) y65 y67 _ e71) [7, 8, 9, 10, 11, 12] 7 rfl rfl rfl rfl rfl (by subst e74; rfl) (fun _ h => h) ⟨rfl, rfl⟩ ⟨Nat.zero_le _, Nat.zero_le _⟩ ⟨Nat.le_of_ble_eq_true rfl, Nat.le_of_ble_eq_true rfl⟩ rfl (Nat.le_of_ble_eq_true rfl) rfl rfl dX6_read_149 ?_
          refine ww_if_ge (pc := 152) (tgt := 161) C dX6_read_152 (by decide) (fun c75 => ?_) (fun c75 => ?_)
          · have hf := oa_ifp c75 hf
            refine ww_iinc (pc := 161) (v := (x7 + 1)) (L' := [(0, .ref (a 0)), (3, .int x3), (4, .int x4), (5, .ref (a 42)), (6, .int x6), (7, .int (x7 + 1)), (8, .int x8), (9, .long y55)]) C 5 [1, 2, 3, 4, 5, 0, 6, 7] dX6_read_161 rfl (ki_1 _) (Nat.le_of_ble_eq_true rfl) rfl ?_
            refine ww_iinc (pc := 164) (v := (x8 + 1)) (L' := [(0, .ref (a 0)), (3, .int x3), (4, .int x4), (5, .ref (a 42)), (6, .int x6), (7, .int (x7 + 1)), (8, .int (x8 + 1)), (9, .long y55)]) C 6 [1, 2, 3, 4, 5, 6, 0, 7] dX6_read_164 rfl (ki_1 _) (Nat.le_of_ble_eq_true rfl) rfl ?_
            refine ww_goto (pc := 167) (tgt := 73) C dX6_read_167 (by decide) ?_
            refine ww_sub C [0, 1, 2, 3, 4, 5, 6] rfl ?_
            exact hk73 B73 x6 (x7 + 1) (x8 + 1) hf
          · have hf := oa_ifn c75 hf
            refine ww_bipush (pc := 155) C dX6_read_155 kb_m20 ?_
            refine ww_iload (pc := 157) (i := 8) C 6 dX6_read_157 rfl ?_
            refine ww_isub (pc := 159) C dX6_read_159 ?_
            obtain rfl := Option.some.inj hf
            exact ww_iret (pc := 160) C rfl dX6_read_160
        · have hf := oa_ifp c64 hf
          refine ww_iconst (pc := 119) C dX6_read_119 kc_2 ?_
          refine ww_istore (pc := 120) (L' := [(0, .ref (a 0)), (3, .int x3), (4, .int x4), (5, .ref (a 42)), (6, .int 2), (7, .int x7), (8, .int x8), (9, .long y55)]) C [1, 2, 3, 4, 0, 5, 6, 7] dX6_read_120 (Nat.le_of_ble_eq_true rfl) rfl ?_
          refine ww_goto (pc := 122) (tgt := 164) C dX6_read_122 (by decide) ?_
          refine ww_iinc (pc := 164) (v := (x8 + 1)) (L' := [(0, .ref (a 0)), (3, .int x3), (4, .int x4), (5, .ref (a 42)), (6, .int 2), (7, .int x7), (8, .int (x8 + 1)), (9, .long y55)]) C 6 [1, 2, 3, 4, 5, 6, 0, 7] dX6_read_164 rfl (ki_1 _) (Nat.le_of_ble_eq_true rfl) rfl ?_
          refine ww_goto (pc := 167) (tgt := 73) C dX6_read_167 (by decide) ?_
          refine ww_sub C [0, 1, 2, 3, 4, 5, 6] rfl ?_
          exact hk73 B 2 x7 (x8 + 1) hf
theorem t_l_X6_read_73_42 {G : oa_G} {O : oa_O} {A : Nat → Prop} {a : Nat → Nat} {res : Int32 × oa_I3} (C : oa_C G cX6_read 11 RX6 (some .int) rm_X6_read O A) (J : oa_J2) (x1 : Int32) (x2 : Int32) (x3 : Int32) (x4 : Int32)    : ∀ (n : Nat) (B : oa_I3) (x6 : Int32) (x7 : Int32) (x8 : Int32), l_X6_read_73_42 J x1 x2 x3 x4 n B x6 x7 x8 = some res → ww G 11 O A (oa_Q G O A (0, 0) (some (.int res.1)) (fun W1 => W1 = wd_O O a res.2 J)) (0, 0) 73 [(0, .ref (a 0)), (3, .int x3), (4, .int x4), (5, .ref (a 42)), (6, .int x6), (7, .int x7), (8, .int x8)] [] (wd_O O a B J) := by
  intro n
  induction n with
  | zero => intro B x6 x7 x8 hf; exact absurd (show (none : Option (Int32 × oa_I3)) = some res from hf) (fun h => nomatch h)
  | succ n ih =>
    intro B x6 x7 x8 hf
    exact t_b_X6_read_73_42 C J x1 x2 x3 x4  (fun B x6 x7 x8 => l_X6_read_73_42 J x1 x2 x3 x4 n B x6 x7 x8)  (fun B x6 x7 x8 h => ih B x6 x7 x8 h) B x6 x7 x8 hf
theorem t_b_X6_read_54_42 {G : oa_G} {O : oa_O} {A : Nat → Prop} {a : Nat → Nat} {res : Int32 × oa_I3} (C : oa_C G cX6_read 11 RX6 (some .int) rm_X6_read O A) (J : oa_J2) (x1 : Int32) (x2 : Int32) (x3 : Int32) (x4 : Int32)  (B : oa_I3) (s0 : Int32)    (hf : b_X6_read_54_42 J x1 x2 x3 x4 B s0 = some res) : ww G 11 O A (oa_Q G O A (0, 0) (some (.int res.1)) (fun W1 => W1 = wd_O O a res.2 J)) (0, 0) 54 [(0, .ref (a 0)), (3, .int x3), (4, .int x4), (5, .ref (a 42))] [.int s0] (wd_O O a B J) := by
  delta b_X6_read_54_42 at hf
  refine ww_istore (pc := 54) (L' := [(0, .ref (a 0)), (3, .int x3), (4, .int x4), (5, .ref (a 42)), (6, .int s0)]) C [1, 2, 3, 4, 0] dX6_read_54 (Nat.le_of_ble_eq_true rfl) rfl ?_
  refine ww_iconst (pc := 56) C dX6_read_56 kc_0 ?_
  refine ww_istore (pc := 57) (L' := [(0, .ref (a 0)), (3, .int x3), (4, .int x4), (5, .ref (a 42)), (6, .int s0), (7, .int 0)]) C [1, 2, 3, 4, 5, 0] dX6_read_57 (Nat.le_of_ble_eq_true rfl) rfl ?_
  refine ww_aload_n (pc := 59) (i := 0) C 0 dX6_read_59 rfl rfl ?_
  refine ww_get (pc := 60) C fl_X6_16 0 rfl rfl dX6_read_60 ?_
  refine ww_aload_n (pc := 63) (i := 0) C 0 dX6_read_63 rfl rfl ?_
  refine ww_get (pc := 64) C fl_X6_10 0 rfl rfl dX6_read_64 ?_
  obtain ⟨V33, e34, hf⟩ := oa_bind hf
  obtain ⟨B36, e37, hf⟩ := oa_letE hf
  refine ww_callV (pc := 67) (As := [.ref (a 1)]) (rest := []) (wd := wd_VV O (fun i => a (i + 7)) (fun i => a (i + 1)) V33 (B 0)) (ws' := wd_O O a B36 J) (rv := none) C hY_X5_copyOf hV_X5_copyOf lk_X6_89 (m_X5_copyOf _ O (fun i => a (i + 7)) (fun i => a (i + 1)) (B 1) (B 0) _ e34) [7, 8, 9, 10, 11, 12, 1, 2, 3, 4, 5, 6] 7 rfl rfl rfl rfl rfl (by subst e37; rfl) (fun _ h => h) ⟨rfl, rfl⟩ ⟨Nat.zero_le _, Nat.zero_le _⟩ ⟨Nat.le_of_ble_eq_true rfl, Nat.le_of_ble_eq_true rfl⟩ rfl (Nat.le_of_ble_eq_true rfl) rfl rfl dX6_read_67 ?_
  refine ww_iconst (pc := 70) C dX6_read_70 kc_0 ?_
  refine ww_istore (pc := 71) (L' := [(0, .ref (a 0)), (3, .int x3), (4, .int x4), (5, .ref (a 42)), (6, .int s0), (7, .int 0), (8, .int 0)]) C [1, 2, 3, 4, 5, 6, 0] dX6_read_71 (Nat.le_of_ble_eq_true rfl) rfl ?_
  exact t_l_X6_read_73_42 C J x1 x2 x3 x4    oa_fu B36 s0 0 0 hf
theorem t_b_X6_read_73_44 {G : oa_G} {O : oa_O} {A : Nat → Prop} {a : Nat → Nat} {res : Int32 × oa_I3} (C : oa_C G cX6_read 11 RX6 (some .int) rm_X6_read O A) (J : oa_J2) (x1 : Int32) (x2 : Int32) (x3 : Int32) (x4 : Int32)    (k73 : oa_I3 → Int32 → Int32 → Int32 → Option (Int32 × oa_I3))  (hk73 : ∀ (b_B : oa_I3) (b_x6 : Int32) (b_x7 : Int32) (b_x8 : Int32), k73 b_B b_x6 b_x7 b_x8 = some res → ww G 11 O A (oa_Q G O A (0, 0) (some (.int res.1)) (fun W1 => W1 = wd_O O a res.2 J)) (0, 0) 73 [(0, .ref (a 0)), (3, .int x3), (4, .int x4), (5, .ref (a 44)), (6, .int b_x6), (7, .int b_x7), (8, .int b_x8)] [] (wd_O O a b_B J)) (B : oa_I3) (x6 : Int32) (x7 : Int32) (x8 : Int32) (hf : b_X6_read_73_44 J x1 x2 x3 x4 k73 B x6 x7 x8 = some res) : ww G 11 O A (oa_Q G O A (0, 0) (some (.int res.1)) (fun W1 => W1 = wd_O O a res.2 J)) (0, 0) 73 [(0, .ref (a 0)), (3, .int x3), (4, .int x4), (5, .ref (a 44)), (6, .int x6), (7, .int x7), (8, .int x8)] [] (wd_O O a B J) := by
  delta b_X6_read_73_44 at hf
  refine ww_iload (pc := 73) (i := 8) C 6 dX6_read_73 rfl ?_
  refine ww_iload (pc := 75) (i := 4) C 2 dX6_read_75 rfl ?_
  refine ww_icmp_ge (pc := 77) (tgt := 170) C dX6_read_77 (by decide) (fun c76 => ?_) (fun c76 => ?_)
  · have hf := oa_ifp c76 hf
    refine ww_sub C [0, 4, 5] rfl ?_
    exact t_b_X6_read_170 C J x1 x2 x3 x4 B x6 x7   hf
  · have hf := oa_ifn c76 hf
    refine ww_iload (pc := 80) (i := 6) C 4 dX6_read_80 rfl ?_
    refine ww_if_ne (pc := 82) (tgt := 170) C dX6_read_82 (by decide) (fun c77 => ?_) (fun c77 => ?_)
    · have hf := oa_ifn c77 hf
      refine ww_sub C [0, 4, 5] rfl ?_
      exact t_b_X6_read_170 C J x1 x2 x3 x4 B x6 x7   hf
    · have hf := oa_ifp c77 hf
      refine ww_iload_n (pc := 85) (i := 3) C 1 dX6_read_85 rfl rfl ?_
      refine ww_i2l (pc := 86) C dX6_read_86 ?_
      refine ww_ldc2 (pc := 87) C cw_X6_280 dX6_read_87 ?_
      refine ww_iload (pc := 90) (i := 8) C 6 dX6_read_90 rfl ?_
      refine ww_i2l (pc := 92) C dX6_read_92 ?_
      refine ww_lmul (pc := 93) C dX6_read_93 ?_
      refine ww_ladd (pc := 94) C dX6_read_94 ?_
      obtain ⟨y78, e79, hf⟩ := oa_letE hf
      refine ww_topl C e79 ?_
      refine ww_lstore (pc := 95) (L' := [(0, .ref (a 0)), (3, .int x3), (4, .int x4), (5, .ref (a 44)), (6, .int x6), (7, .int x7), (8, .int x8), (9, .long y78)]) C [1, 2, 3, 4, 5, 6, 7, 0] dX6_read_95 (Nat.le_of_ble_eq_true rfl) rfl ?_
      refine ww_aload (pc := 97) (i := 5) C 3 dX6_read_97 rfl ?_
      refine ww_lload (pc := 99) (i := 9) C 7 dX6_read_99 rfl ?_
      obtain ⟨y80, e81, hf⟩ := oa_bind hf
      refine ww_callV (pc := 101) (As := [.long y78]) (rest := []) (wd := wd_S O (fun i => a (i + 44)) (B 8)) (ws' := wd_O O a B J) (rv := (some (.int y80))) C hY_X3_hasCell hV_X3_hasCell lk_X6_282 (m_X3_hasCell _ O (fun i => a (i + 44)) (B 8) y78 _ e81) [44, 45] 44 rfl rfl rfl rfl rfl (oa_putS _ _ _ rfl) (fun _ h => h) ⟨rfl, rfl⟩ ⟨Nat.zero_le _, Nat.zero_le _⟩ ⟨Nat.le_of_ble_eq_true rfl, Nat.le_of_ble_eq_true rfl⟩ rfl (Nat.le_of_ble_eq_true rfl) rfl rfl dX6_read_101 ?_
      refine ww_if_eq (pc := 104) (tgt := 119) C dX6_read_104 (by decide) (fun c83 => ?_) (fun c83 => ?_)
      · have hf := oa_ifp c83 hf
        refine ww_iconst (pc := 119) C dX6_read_119 kc_2 ?_
        refine ww_istore (pc := 120) (L' := [(0, .ref (a 0)), (3, .int x3), (4, .int x4), (5, .ref (a 44)), (6, .int 2), (7, .int x7), (8, .int x8), (9, .long y78)]) C [1, 2, 3, 4, 0, 5, 6, 7] dX6_read_120 (Nat.le_of_ble_eq_true rfl) rfl ?_
        refine ww_goto (pc := 122) (tgt := 164) C dX6_read_122 (by decide) ?_
        refine ww_iinc (pc := 164) (v := (x8 + 1)) (L' := [(0, .ref (a 0)), (3, .int x3), (4, .int x4), (5, .ref (a 44)), (6, .int 2), (7, .int x7), (8, .int (x8 + 1)), (9, .long y78)]) C 6 [1, 2, 3, 4, 5, 6, 0, 7] dX6_read_164 rfl (ki_1 _) (Nat.le_of_ble_eq_true rfl) rfl ?_
        refine ww_goto (pc := 167) (tgt := 73) C dX6_read_167 (by decide) ?_
        refine ww_sub C [0, 1, 2, 3, 4, 5, 6] rfl ?_
        exact hk73 B 2 x7 (x8 + 1) hf
      · have hf := oa_ifn c83 hf
        refine ww_aload (pc := 107) (i := 5) C 3 dX6_read_107 rfl ?_
        refine ww_lload (pc := 109) (i := 9) C 7 dX6_read_109 rfl ?_
        refine ww_lconst (pc := 111) C dX6_read_111 kl_1 ?_
        refine ww_ladd (pc := 112) C dX6_read_112 ?_
        obtain ⟨y84, e85, hf⟩ := oa_bind hf
        refine ww_callV (pc := 113) (As := [.long (y78 + 1)]) (rest := []) (wd := wd_S O (fun i => a (i + 44)) (B 8)) (ws' := wd_O O a B J) (rv := (some (.int y84))) C hY_X3_hasCell hV_X3_hasCell lk_X6_282 (m_X3_hasCell _ O (fun i => a (i + 44)) (B 8) (y78 + 1) _ e85) [44, 45] 44 rfl rfl rfl rfl rfl (oa_putS _ _ _ rfl) (fun _ h => h) ⟨rfl, rfl⟩ ⟨Nat.zero_le _, Nat.zero_le _⟩ ⟨Nat.le_of_ble_eq_true rfl, Nat.le_of_ble_eq_true rfl⟩ rfl (Nat.le_of_ble_eq_true rfl) rfl rfl dX6_read_113 ?_
        refine ww_if_ne (pc := 116) (tgt := 125) C dX6_read_116 (by decide) (fun c87 => ?_) (fun c87 => ?_)
        · have hf := oa_ifn c87 hf
          refine ww_aload_n (pc := 125) (i := 0) C 0 dX6_read_125 rfl rfl ?_
          refine ww_get (pc := 126) C fl_X6_16 0 rfl rfl dX6_read_126 ?_
          refine ww_aload (pc := 129) (i := 5) C 3 dX6_read_129 rfl ?_
          refine ww_get (pc := 131) C fl_X6_286 44 rfl rfl dX6_read_131 ?_
          refine ww_lload (pc := 134) (i := 9) C 7 dX6_read_134 rfl ?_
          refine ww_l2i (pc := 136) C dX6_read_136 ?_
          obtain ⟨y88, e89, hf⟩ := oa_bind hf
          refine ww_iald (pc := 137) C 45 rfl e89 dX6_read_137 ?_
          refine ww_aload (pc := 138) (i := 5) C 3 dX6_read_138 rfl ?_
          refine ww_get (pc := 140) C fl_X6_286 44 rfl rfl dX6_read_140 ?_
          refine ww_lload (pc := 143) (i := 9) C 7 dX6_read_143 rfl ?_
          refine ww_l2i (pc := 145) C dX6_read_145 ?_
          refine ww_iconst (pc := 146) C dX6_read_146 kc_1 ?_
          refine ww_iadd (pc := 147) C dX6_read_147 ?_
          obtain ⟨y90, e91, hf⟩ := oa_bind hf
          refine ww_iald (pc := 148) C 45 rfl e91 dX6_read_148 ?_
          obtain ⟨y92, V93, e94, hf⟩ := oa_bind2 hf
          obtain ⟨B96, e97, hf⟩ := oa_letE hf
          refine ww_callV (pc := 149) (As := [.int y88, .int y90]) (rest := []) (wd := wd_V O (fun i => a (i + 7)) V93) (ws' := wd_O O a B96 J) (rv := (some (.int y92))) C hY_X5_begin hV_X5_begin lk_X6_145 (m_X5_begin _ O (fun i => a (i + 7)) (B 1) y88 y90 _ e94) [7, 8, 9, 10, 11, 12] 7 rfl rfl rfl rfl rfl (by subst e97; rfl) (fun _ h => h) ⟨rfl, rfl⟩ ⟨Nat.zero_le _, Nat.zero_le _⟩ ⟨Nat.le_of_ble_eq_true rfl, Nat.le_of_ble_eq_true rfl⟩ rfl (Nat.le_of_ble_eq_true rfl) rfl rfl dX6_read_149 ?_
          refine ww_if_ge (pc := 152) (tgt := 161) C dX6_read_152 (by decide) (fun c98 => ?_) (fun c98 => ?_)
          · have hf := oa_ifp c98 hf
            refine ww_iinc (pc := 161) (v := (x7 + 1)) (L' := [(0, .ref (a 0)), (3, .int x3), (4, .int x4), (5, .ref (a 44)), (6, .int x6), (7, .int (x7 + 1)), (8, .int x8), (9, .long y78)]) C 5 [1, 2, 3, 4, 5, 0, 6, 7] dX6_read_161 rfl (ki_1 _) (Nat.le_of_ble_eq_true rfl) rfl ?_
            refine ww_iinc (pc := 164) (v := (x8 + 1)) (L' := [(0, .ref (a 0)), (3, .int x3), (4, .int x4), (5, .ref (a 44)), (6, .int x6), (7, .int (x7 + 1)), (8, .int (x8 + 1)), (9, .long y78)]) C 6 [1, 2, 3, 4, 5, 6, 0, 7] dX6_read_164 rfl (ki_1 _) (Nat.le_of_ble_eq_true rfl) rfl ?_
            refine ww_goto (pc := 167) (tgt := 73) C dX6_read_167 (by decide) ?_
            refine ww_sub C [0, 1, 2, 3, 4, 5, 6] rfl ?_
            exact hk73 B96 x6 (x7 + 1) (x8 + 1) hf
          · have hf := oa_ifn c98 hf
            refine ww_bipush (pc := 155) C dX6_read_155 kb_m20 ?_
            refine ww_iload (pc := 157) (i := 8) C 6 dX6_read_157 rfl ?_
            refine ww_isub (pc := 159) C dX6_read_159 ?_
            obtain rfl := Option.some.inj hf
            exact ww_iret (pc := 160) C rfl dX6_read_160
        · have hf := oa_ifp c87 hf
          refine ww_iconst (pc := 119) C dX6_read_119 kc_2 ?_
          refine ww_istore (pc := 120) (L' := [(0, .ref (a 0)), (3, .int x3), (4, .int x4), (5, .ref (a 44)), (6, .int 2), (7, .int x7), (8, .int x8), (9, .long y78)]) C [1, 2, 3, 4, 0, 5, 6, 7] dX6_read_120 (Nat.le_of_ble_eq_true rfl) rfl ?_
          refine ww_goto (pc := 122) (tgt := 164) C dX6_read_122 (by decide) ?_
          refine ww_iinc (pc := 164) (v := (x8 + 1)) (L' := [(0, .ref (a 0)), (3, .int x3), (4, .int x4), (5, .ref (a 44)), (6, .int 2), (7, .int x7), (8, .int (x8 + 1)), (9, .long y78)]) C 6 [1, 2, 3, 4, 5, 6, 0, 7] dX6_read_164 rfl (ki_1 _) (Nat.le_of_ble_eq_true rfl) rfl ?_
          refine ww_goto (pc := 167) (tgt := 73) C dX6_read_167 (by decide) ?_
          refine ww_sub C [0, 1, 2, 3, 4, 5, 6] rfl ?_
          exact hk73 B 2 x7 (x8 + 1) hf
theorem t_l_X6_read_73_44 {G : oa_G} {O : oa_O} {A : Nat → Prop} {a : Nat → Nat} {res : Int32 × oa_I3} (C : oa_C G cX6_read 11 RX6 (some .int) rm_X6_read O A) (J : oa_J2) (x1 : Int32) (x2 : Int32) (x3 : Int32) (x4 : Int32)    : ∀ (n : Nat) (B : oa_I3) (x6 : Int32) (x7 : Int32) (x8 : Int32), l_X6_read_73_44 J x1 x2 x3 x4 n B x6 x7 x8 = some res → ww G 11 O A (oa_Q G O A (0, 0) (some (.int res.1)) (fun W1 => W1 = wd_O O a res.2 J)) (0, 0) 73 [(0, .ref (a 0)), (3, .int x3), (4, .int x4), (5, .ref (a 44)), (6, .int x6), (7, .int x7), (8, .int x8)] [] (wd_O O a B J) := by
  intro n
  induction n with
  | zero => intro B x6 x7 x8 hf; exact absurd (show (none : Option (Int32 × oa_I3)) = some res from hf) (fun h => nomatch h)
  | succ n ih =>
    intro B x6 x7 x8 hf
    exact t_b_X6_read_73_44 C J x1 x2 x3 x4  (fun B x6 x7 x8 => l_X6_read_73_44 J x1 x2 x3 x4 n B x6 x7 x8)  (fun B x6 x7 x8 h => ih B x6 x7 x8 h) B x6 x7 x8 hf
theorem t_b_X6_read_54_44 {G : oa_G} {O : oa_O} {A : Nat → Prop} {a : Nat → Nat} {res : Int32 × oa_I3} (C : oa_C G cX6_read 11 RX6 (some .int) rm_X6_read O A) (J : oa_J2) (x1 : Int32) (x2 : Int32) (x3 : Int32) (x4 : Int32)  (B : oa_I3) (s0 : Int32)    (hf : b_X6_read_54_44 J x1 x2 x3 x4 B s0 = some res) : ww G 11 O A (oa_Q G O A (0, 0) (some (.int res.1)) (fun W1 => W1 = wd_O O a res.2 J)) (0, 0) 54 [(0, .ref (a 0)), (3, .int x3), (4, .int x4), (5, .ref (a 44))] [.int s0] (wd_O O a B J) := by
  delta b_X6_read_54_44 at hf
  refine ww_istore (pc := 54) (L' := [(0, .ref (a 0)), (3, .int x3), (4, .int x4), (5, .ref (a 44)), (6, .int s0)]) C [1, 2, 3, 4, 0] dX6_read_54 (Nat.le_of_ble_eq_true rfl) rfl ?_
  refine ww_iconst (pc := 56) C dX6_read_56 kc_0 ?_
  refine ww_istore (pc := 57) (L' := [(0, .ref (a 0)), (3, .int x3), (4, .int x4), (5, .ref (a 44)), (6, .int s0), (7, .int 0)]) C [1, 2, 3, 4, 5, 0] dX6_read_57 (Nat.le_of_ble_eq_true rfl) rfl ?_
  refine ww_aload_n (pc := 59) (i := 0) C 0 dX6_read_59 rfl rfl ?_
  refine ww_get (pc := 60) C fl_X6_16 0 rfl rfl dX6_read_60 ?_
  refine ww_aload_n (pc := 63) (i := 0) C 0 dX6_read_63 rfl rfl ?_
  refine ww_get (pc := 64) C fl_X6_10 0 rfl rfl dX6_read_64 ?_
  obtain ⟨V38, e39, hf⟩ := oa_bind hf
  obtain ⟨B41, e42, hf⟩ := oa_letE hf
  refine ww_callV (pc := 67) (As := [.ref (a 1)]) (rest := []) (wd := wd_VV O (fun i => a (i + 7)) (fun i => a (i + 1)) V38 (B 0)) (ws' := wd_O O a B41 J) (rv := none) C hY_X5_copyOf hV_X5_copyOf lk_X6_89 (m_X5_copyOf _ O (fun i => a (i + 7)) (fun i => a (i + 1)) (B 1) (B 0) _ e39) [7, 8, 9, 10, 11, 12, 1, 2, 3, 4, 5, 6] 7 rfl rfl rfl rfl rfl (by subst e42; rfl) (fun _ h => h) ⟨rfl, rfl⟩ ⟨Nat.zero_le _, Nat.zero_le _⟩ ⟨Nat.le_of_ble_eq_true rfl, Nat.le_of_ble_eq_true rfl⟩ rfl (Nat.le_of_ble_eq_true rfl) rfl rfl dX6_read_67 ?_
  refine ww_iconst (pc := 70) C dX6_read_70 kc_0 ?_
  refine ww_istore (pc := 71) (L' := [(0, .ref (a 0)), (3, .int x3), (4, .int x4), (5, .ref (a 44)), (6, .int s0), (7, .int 0), (8, .int 0)]) C [1, 2, 3, 4, 5, 6, 0] dX6_read_71 (Nat.le_of_ble_eq_true rfl) rfl ?_
  exact t_l_X6_read_73_44 C J x1 x2 x3 x4    oa_fu B41 s0 0 0 hf
theorem t_b_X6_read_73_46 {G : oa_G} {O : oa_O} {A : Nat → Prop} {a : Nat → Nat} {res : Int32 × oa_I3} (C : oa_C G cX6_read 11 RX6 (some .int) rm_X6_read O A) (J : oa_J2) (x1 : Int32) (x2 : Int32) (x3 : Int32) (x4 : Int32)    (k73 : oa_I3 → Int32 → Int32 → Int32 → Option (Int32 × oa_I3))  (hk73 : ∀ (b_B : oa_I3) (b_x6 : Int32) (b_x7 : Int32) (b_x8 : Int32), k73 b_B b_x6 b_x7 b_x8 = some res → ww G 11 O A (oa_Q G O A (0, 0) (some (.int res.1)) (fun W1 => W1 = wd_O O a res.2 J)) (0, 0) 73 [(0, .ref (a 0)), (3, .int x3), (4, .int x4), (5, .ref (a 46)), (6, .int b_x6), (7, .int b_x7), (8, .int b_x8)] [] (wd_O O a b_B J)) (B : oa_I3) (x6 : Int32) (x7 : Int32) (x8 : Int32) (hf : b_X6_read_73_46 J x1 x2 x3 x4 k73 B x6 x7 x8 = some res) : ww G 11 O A (oa_Q G O A (0, 0) (some (.int res.1)) (fun W1 => W1 = wd_O O a res.2 J)) (0, 0) 73 [(0, .ref (a 0)), (3, .int x3), (4, .int x4), (5, .ref (a 46)), (6, .int x6), (7, .int x7), (8, .int x8)] [] (wd_O O a B J) := by
  delta b_X6_read_73_46 at hf
  refine ww_iload (pc := 73) (i := 8) C 6 dX6_read_73 rfl ?_
  refine ww_iload (pc := 75) (i := 4) C 2 dX6_read_75 rfl ?_
  refine ww_icmp_ge (pc := 77) (tgt := 170) C dX6_read_77 (by decide) (fun c99 => ?_) (fun c99 => ?_)
  · have hf := oa_ifp c99 hf
    refine ww_sub C [0, 4, 5] rfl ?_
    exact t_b_X6_read_170 C J x1 x2 x3 x4 B x6 x7   hf
  · have hf := oa_ifn c99 hf
    refine ww_iload (pc := 80) (i := 6) C 4 dX6_read_80 rfl ?_
    refine ww_if_ne (pc := 82) (tgt := 170) C dX6_read_82 (by decide) (fun c100 => ?_) (fun c100 => ?_)
    · have hf := oa_ifn c100 hf
      refine ww_sub C [0, 4, 5] rfl ?_
      exact t_b_X6_read_170 C J x1 x2 x3 x4 B x6 x7   hf
    · have hf := oa_ifp c100 hf
      refine ww_iload_n (pc := 85) (i := 3) C 1 dX6_read_85 rfl rfl ?_
      refine ww_i2l (pc := 86) C dX6_read_86 ?_
      refine ww_ldc2 (pc := 87) C cw_X6_280 dX6_read_87 ?_
      refine ww_iload (pc := 90) (i := 8) C 6 dX6_read_90 rfl ?_
      refine ww_i2l (pc := 92) C dX6_read_92 ?_
      refine ww_lmul (pc := 93) C dX6_read_93 ?_
      refine ww_ladd (pc := 94) C dX6_read_94 ?_
      obtain ⟨y101, e102, hf⟩ := oa_letE hf
      refine ww_topl C e102 ?_
      refine ww_lstore (pc := 95) (L' := [(0, .ref (a 0)), (3, .int x3), (4, .int x4), (5, .ref (a 46)), (6, .int x6), (7, .int x7), (8, .int x8), (9, .long y101)]) C [1, 2, 3, 4, 5, 6, 7, 0] dX6_read_95 (Nat.le_of_ble_eq_true rfl) rfl ?_
      refine ww_aload (pc := 97) (i := 5) C 3 dX6_read_97 rfl ?_
      refine ww_lload (pc := 99) (i := 9) C 7 dX6_read_99 rfl ?_
      obtain ⟨y103, e104, hf⟩ := oa_bind hf
      refine ww_callV (pc := 101) (As := [.long y101]) (rest := []) (wd := wd_S O (fun i => a (i + 46)) (B 9)) (ws' := wd_O O a B J) (rv := (some (.int y103))) C hY_X3_hasCell hV_X3_hasCell lk_X6_282 (m_X3_hasCell _ O (fun i => a (i + 46)) (B 9) y101 _ e104) [46, 47] 46 rfl rfl rfl rfl rfl (oa_putS _ _ _ rfl) (fun _ h => h) ⟨rfl, rfl⟩ ⟨Nat.zero_le _, Nat.zero_le _⟩ ⟨Nat.le_of_ble_eq_true rfl, Nat.le_of_ble_eq_true rfl⟩ rfl (Nat.le_of_ble_eq_true rfl) rfl rfl dX6_read_101 ?_
      refine ww_if_eq (pc := 104) (tgt := 119) C dX6_read_104 (by decide) (fun c106 => ?_) (fun c106 => ?_)
      · have hf := oa_ifp c106 hf
        refine ww_iconst (pc := 119) C dX6_read_119 kc_2 ?_
        refine ww_istore (pc := 120) (L' := [(0, .ref (a 0)), (3, .int x3), (4, .int x4), (5, .ref (a 46)), (6, .int 2), (7, .int x7), (8, .int x8), (9, .long y101)]) C [1, 2, 3, 4, 0, 5, 6, 7] dX6_read_120 (Nat.le_of_ble_eq_true rfl) rfl ?_
        refine ww_goto (pc := 122) (tgt := 164) C dX6_read_122 (by decide) ?_
        refine ww_iinc (pc := 164) (v := (x8 + 1)) (L' := [(0, .ref (a 0)), (3, .int x3), (4, .int x4), (5, .ref (a 46)), (6, .int 2), (7, .int x7), (8, .int (x8 + 1)), (9, .long y101)]) C 6 [1, 2, 3, 4, 5, 6, 0, 7] dX6_read_164 rfl (ki_1 _) (Nat.le_of_ble_eq_true rfl) rfl ?_
        refine ww_goto (pc := 167) (tgt := 73) C dX6_read_167 (by decide) ?_
        refine ww_sub C [0, 1, 2, 3, 4, 5, 6] rfl ?_
        exact hk73 B 2 x7 (x8 + 1) hf
      · have hf := oa_ifn c106 hf
        refine ww_aload (pc := 107) (i := 5) C 3 dX6_read_107 rfl ?_
        refine ww_lload (pc := 109) (i := 9) C 7 dX6_read_109 rfl ?_
        refine ww_lconst (pc := 111) C dX6_read_111 kl_1 ?_
        refine ww_ladd (pc := 112) C dX6_read_112 ?_
        obtain ⟨y107, e108, hf⟩ := oa_bind hf
        refine ww_callV (pc := 113) (As := [.long (y101 + 1)]) (rest := []) (wd := wd_S O (fun i => a (i + 46)) (B 9)) (ws' := wd_O O a B J) (rv := (some (.int y107))) C hY_X3_hasCell hV_X3_hasCell lk_X6_282 (m_X3_hasCell _ O (fun i => a (i + 46)) (B 9) (y101 + 1) _ e108) [46, 47] 46 rfl rfl rfl rfl rfl (oa_putS _ _ _ rfl) (fun _ h => h) ⟨rfl, rfl⟩ ⟨Nat.zero_le _, Nat.zero_le _⟩ ⟨Nat.le_of_ble_eq_true rfl, Nat.le_of_ble_eq_true rfl⟩ rfl (Nat.le_of_ble_eq_true rfl) rfl rfl dX6_read_113 ?_
        refine ww_if_ne (pc := 116) (tgt := 125) C dX6_read_116 (by decide) (fun c110 => ?_) (fun c110 => ?_)
        · have hf := oa_ifn c110 hf
          refine ww_aload_n (pc := 125) (i := 0) C 0 dX6_read_125 rfl rfl ?_
          refine ww_get (pc := 126) C fl_X6_16 0 rfl rfl dX6_read_126 ?_
          refine ww_aload (pc := 129) (i := 5) C 3 dX6_read_129 rfl ?_
          refine ww_get (pc := 131) C fl_X6_286 46 rfl rfl dX6_read_131 ?_
          refine ww_lload (pc := 134) (i := 9) C 7 dX6_read_134 rfl ?_
          refine ww_l2i (pc := 136) C dX6_read_136 ?_
          obtain ⟨y111, e112, hf⟩ := oa_bind hf
          refine ww_iald (pc := 137) C 47 rfl e112 dX6_read_137 ?_
          refine ww_aload (pc := 138) (i := 5) C 3 dX6_read_138 rfl ?_
          refine ww_get (pc := 140) C fl_X6_286 46 rfl rfl dX6_read_140 ?_
          refine ww_lload (pc := 143) (i := 9) C 7 dX6_read_143 rfl ?_
          refine ww_l2i (pc := 145) C dX6_read_145 ?_
          refine ww_iconst (pc := 146) C dX6_read_146 kc_1 ?_
          refine ww_iadd (pc := 147) C dX6_read_147 ?_
          obtain ⟨y113, e114, hf⟩ := oa_bind hf
          refine ww_iald (pc := 148) C 47 rfl e114 dX6_read_148 ?_
          obtain ⟨y115, V116, e117, hf⟩ := oa_bind2 hf
          obtain ⟨B119, e120, hf⟩ := oa_letE hf
          refine ww_callV (pc := 149) (As := [.int y111, .int y113]) (rest := []) (wd := wd_V O (fun i => a (i + 7)) V116) (ws' := wd_O O a B119 J) (rv := (some (.int y115))) C hY_X5_begin hV_X5_begin lk_X6_145 (m_X5_begin _ O (fun i => a (i + 7)) (B 1) y111 y113 _ e117) [7, 8, 9, 10, 11, 12] 7 rfl rfl rfl rfl rfl (by subst e120; rfl) (fun _ h => h) ⟨rfl, rfl⟩ ⟨Nat.zero_le _, Nat.zero_le _⟩ ⟨Nat.le_of_ble_eq_true rfl, Nat.le_of_ble_eq_true rfl⟩ rfl (Nat.le_of_ble_eq_true rfl) rfl rfl dX6_read_149 ?_
          refine ww_if_ge (pc := 152) (tgt := 161) C dX6_read_152 (by decide) (fun c121 => ?_) (fun c121 => ?_)
          · have hf := oa_ifp c121 hf
            refine ww_iinc (pc := 161) (v := (x7 + 1)) (L' := [(0, .ref (a 0)), (3, .int x3), (4, .int x4), (5, .ref (a 46)), (6, .int x6), (7, .int (x7 + 1)), (8, .int x8), (9, .long y101)]) C 5 [1, 2, 3, 4, 5, 0, 6, 7] dX6_read_161 rfl (ki_1 _) (Nat.le_of_ble_eq_true rfl) rfl ?_
            refine ww_iinc (pc := 164) (v := (x8 + 1)) (L' := [(0, .ref (a 0)), (3, .int x3), (4, .int x4), (5, .ref (a 46)), (6, .int x6), (7, .int (x7 + 1)), (8, .int (x8 + 1)), (9, .long y101)]) C 6 [1, 2, 3, 4, 5, 6, 0, 7] dX6_read_164 rfl (ki_1 _) (Nat.le_of_ble_eq_true rfl) rfl ?_
            refine ww_goto (pc := 167) (tgt := 73) C dX6_read_167 (by decide) ?_
            refine ww_sub C [0, 1, 2, 3, 4, 5, 6] rfl ?_
            exact hk73 B119 x6 (x7 + 1) (x8 + 1) hf
          · have hf := oa_ifn c121 hf
            refine ww_bipush (pc := 155) C dX6_read_155 kb_m20 ?_
            refine ww_iload (pc := 157) (i := 8) C 6 dX6_read_157 rfl ?_
            refine ww_isub (pc := 159) C dX6_read_159 ?_
            obtain rfl := Option.some.inj hf
            exact ww_iret (pc := 160) C rfl dX6_read_160
        · have hf := oa_ifp c110 hf
          refine ww_iconst (pc := 119) C dX6_read_119 kc_2 ?_
          refine ww_istore (pc := 120) (L' := [(0, .ref (a 0)), (3, .int x3), (4, .int x4), (5, .ref (a 46)), (6, .int 2), (7, .int x7), (8, .int x8), (9, .long y101)]) C [1, 2, 3, 4, 0, 5, 6, 7] dX6_read_120 (Nat.le_of_ble_eq_true rfl) rfl ?_
          refine ww_goto (pc := 122) (tgt := 164) C dX6_read_122 (by decide) ?_
          refine ww_iinc (pc := 164) (v := (x8 + 1)) (L' := [(0, .ref (a 0)), (3, .int x3), (4, .int x4), (5, .ref (a 46)), (6, .int 2), (7, .int x7), (8, .int (x8 + 1)), (9, .long y101)]) C 6 [1, 2, 3, 4, 5, 6, 0, 7] dX6_read_164 rfl (ki_1 _) (Nat.le_of_ble_eq_true rfl) rfl ?_
          refine ww_goto (pc := 167) (tgt := 73) C dX6_read_167 (by decide) ?_
          refine ww_sub C [0, 1, 2, 3, 4, 5, 6] rfl ?_
          exact hk73 B 2 x7 (x8 + 1) hf
theorem t_l_X6_read_73_46 {G : oa_G} {O : oa_O} {A : Nat → Prop} {a : Nat → Nat} {res : Int32 × oa_I3} (C : oa_C G cX6_read 11 RX6 (some .int) rm_X6_read O A) (J : oa_J2) (x1 : Int32) (x2 : Int32) (x3 : Int32) (x4 : Int32)    : ∀ (n : Nat) (B : oa_I3) (x6 : Int32) (x7 : Int32) (x8 : Int32), l_X6_read_73_46 J x1 x2 x3 x4 n B x6 x7 x8 = some res → ww G 11 O A (oa_Q G O A (0, 0) (some (.int res.1)) (fun W1 => W1 = wd_O O a res.2 J)) (0, 0) 73 [(0, .ref (a 0)), (3, .int x3), (4, .int x4), (5, .ref (a 46)), (6, .int x6), (7, .int x7), (8, .int x8)] [] (wd_O O a B J) := by
  intro n
  induction n with
  | zero => intro B x6 x7 x8 hf; exact absurd (show (none : Option (Int32 × oa_I3)) = some res from hf) (fun h => nomatch h)
  | succ n ih =>
    intro B x6 x7 x8 hf
    exact t_b_X6_read_73_46 C J x1 x2 x3 x4  (fun B x6 x7 x8 => l_X6_read_73_46 J x1 x2 x3 x4 n B x6 x7 x8)  (fun B x6 x7 x8 h => ih B x6 x7 x8 h) B x6 x7 x8 hf
theorem t_b_X6_read_54_46 {G : oa_G} {O : oa_O} {A : Nat → Prop} {a : Nat → Nat} {res : Int32 × oa_I3} (C : oa_C G cX6_read 11 RX6 (some .int) rm_X6_read O A) (J : oa_J2) (x1 : Int32) (x2 : Int32) (x3 : Int32) (x4 : Int32)  (B : oa_I3) (s0 : Int32)    (hf : b_X6_read_54_46 J x1 x2 x3 x4 B s0 = some res) : ww G 11 O A (oa_Q G O A (0, 0) (some (.int res.1)) (fun W1 => W1 = wd_O O a res.2 J)) (0, 0) 54 [(0, .ref (a 0)), (3, .int x3), (4, .int x4), (5, .ref (a 46))] [.int s0] (wd_O O a B J) := by
  delta b_X6_read_54_46 at hf
  refine ww_istore (pc := 54) (L' := [(0, .ref (a 0)), (3, .int x3), (4, .int x4), (5, .ref (a 46)), (6, .int s0)]) C [1, 2, 3, 4, 0] dX6_read_54 (Nat.le_of_ble_eq_true rfl) rfl ?_
  refine ww_iconst (pc := 56) C dX6_read_56 kc_0 ?_
  refine ww_istore (pc := 57) (L' := [(0, .ref (a 0)), (3, .int x3), (4, .int x4), (5, .ref (a 46)), (6, .int s0), (7, .int 0)]) C [1, 2, 3, 4, 5, 0] dX6_read_57 (Nat.le_of_ble_eq_true rfl) rfl ?_
  refine ww_aload_n (pc := 59) (i := 0) C 0 dX6_read_59 rfl rfl ?_
  refine ww_get (pc := 60) C fl_X6_16 0 rfl rfl dX6_read_60 ?_
  refine ww_aload_n (pc := 63) (i := 0) C 0 dX6_read_63 rfl rfl ?_
  refine ww_get (pc := 64) C fl_X6_10 0 rfl rfl dX6_read_64 ?_
  obtain ⟨V43, e44, hf⟩ := oa_bind hf
  obtain ⟨B46, e47, hf⟩ := oa_letE hf
  refine ww_callV (pc := 67) (As := [.ref (a 1)]) (rest := []) (wd := wd_VV O (fun i => a (i + 7)) (fun i => a (i + 1)) V43 (B 0)) (ws' := wd_O O a B46 J) (rv := none) C hY_X5_copyOf hV_X5_copyOf lk_X6_89 (m_X5_copyOf _ O (fun i => a (i + 7)) (fun i => a (i + 1)) (B 1) (B 0) _ e44) [7, 8, 9, 10, 11, 12, 1, 2, 3, 4, 5, 6] 7 rfl rfl rfl rfl rfl (by subst e47; rfl) (fun _ h => h) ⟨rfl, rfl⟩ ⟨Nat.zero_le _, Nat.zero_le _⟩ ⟨Nat.le_of_ble_eq_true rfl, Nat.le_of_ble_eq_true rfl⟩ rfl (Nat.le_of_ble_eq_true rfl) rfl rfl dX6_read_67 ?_
  refine ww_iconst (pc := 70) C dX6_read_70 kc_0 ?_
  refine ww_istore (pc := 71) (L' := [(0, .ref (a 0)), (3, .int x3), (4, .int x4), (5, .ref (a 46)), (6, .int s0), (7, .int 0), (8, .int 0)]) C [1, 2, 3, 4, 5, 6, 0] dX6_read_71 (Nat.le_of_ble_eq_true rfl) rfl ?_
  exact t_l_X6_read_73_46 C J x1 x2 x3 x4    oa_fu B46 s0 0 0 hf
theorem t_b_X6_read_73_48 {G : oa_G} {O : oa_O} {A : Nat → Prop} {a : Nat → Nat} {res : Int32 × oa_I3} (C : oa_C G cX6_read 11 RX6 (some .int) rm_X6_read O A) (J : oa_J2) (x1 : Int32) (x2 : Int32) (x3 : Int32) (x4 : Int32)    (k73 : oa_I3 → Int32 → Int32 → Int32 → Option (Int32 × oa_I3))  (hk73 : ∀ (b_B : oa_I3) (b_x6 : Int32) (b_x7 : Int32) (b_x8 : Int32), k73 b_B b_x6 b_x7 b_x8 = some res → ww G 11 O A (oa_Q G O A (0, 0) (some (.int res.1)) (fun W1 => W1 = wd_O O a res.2 J)) (0, 0) 73 [(0, .ref (a 0)), (3, .int x3), (4, .int x4), (5, .ref (a 48)), (6, .int b_x6), (7, .int b_x7), (8, .int b_x8)] [] (wd_O O a b_B J)) (B : oa_I3) (x6 : Int32) (x7 : Int32) (x8 : Int32) (hf : b_X6_read_73_48 J x1 x2 x3 x4 k73 B x6 x7 x8 = some res) : ww G 11 O A (oa_Q G O A (0, 0) (some (.int res.1)) (fun W1 => W1 = wd_O O a res.2 J)) (0, 0) 73 [(0, .ref (a 0)), (3, .int x3), (4, .int x4), (5, .ref (a 48)), (6, .int x6), (7, .int x7), (8, .int x8)] [] (wd_O O a B J) := by
  delta b_X6_read_73_48 at hf
  refine ww_iload (pc := 73) (i := 8) C 6 dX6_read_73 rfl ?_
  refine ww_iload (pc := 75) (i := 4) C 2 dX6_read_75 rfl ?_
  refine ww_icmp_ge (pc := 77) (tgt := 170) C dX6_read_77 (by decide) (fun c122 => ?_) (fun c122 => ?_)
  · have hf := oa_ifp c122 hf
    refine ww_sub C [0, 4, 5] rfl ?_
    exact t_b_X6_read_170 C J x1 x2 x3 x4 B x6 x7   hf
  · have hf := oa_ifn c122 hf
    refine ww_iload (pc := 80) (i := 6) C 4 dX6_read_80 rfl ?_
    refine ww_if_ne (pc := 82) (tgt := 170) C dX6_read_82 (by decide) (fun c123 => ?_) (fun c123 => ?_)
    · have hf := oa_ifn c123 hf
      refine ww_sub C [0, 4, 5] rfl ?_
      exact t_b_X6_read_170 C J x1 x2 x3 x4 B x6 x7   hf
    · have hf := oa_ifp c123 hf
      refine ww_iload_n (pc := 85) (i := 3) C 1 dX6_read_85 rfl rfl ?_
      refine ww_i2l (pc := 86) C dX6_read_86 ?_
      refine ww_ldc2 (pc := 87) C cw_X6_280 dX6_read_87 ?_
      refine ww_iload (pc := 90) (i := 8) C 6 dX6_read_90 rfl ?_
      refine ww_i2l (pc := 92) C dX6_read_92 ?_
      refine ww_lmul (pc := 93) C dX6_read_93 ?_
      refine ww_ladd (pc := 94) C dX6_read_94 ?_
      obtain ⟨y124, e125, hf⟩ := oa_letE hf
      refine ww_topl C e125 ?_
      refine ww_lstore (pc := 95) (L' := [(0, .ref (a 0)), (3, .int x3), (4, .int x4), (5, .ref (a 48)), (6, .int x6), (7, .int x7), (8, .int x8), (9, .long y124)]) C [1, 2, 3, 4, 5, 6, 7, 0] dX6_read_95 (Nat.le_of_ble_eq_true rfl) rfl ?_
      refine ww_aload (pc := 97) (i := 5) C 3 dX6_read_97 rfl ?_
      refine ww_lload (pc := 99) (i := 9) C 7 dX6_read_99 rfl ?_
      obtain ⟨y126, e127, hf⟩ := oa_bind hf
      refine ww_callV (pc := 101) (As := [.long y124]) (rest := []) (wd := wd_S O (fun i => a (i + 48)) (B 10)) (ws' := wd_O O a B J) (rv := (some (.int y126))) C hY_X3_hasCell hV_X3_hasCell lk_X6_282 (m_X3_hasCell _ O (fun i => a (i + 48)) (B 10) y124 _ e127) [48, 49] 48 rfl rfl rfl rfl rfl (oa_putS _ _ _ rfl) (fun _ h => h) ⟨rfl, rfl⟩ ⟨Nat.zero_le _, Nat.zero_le _⟩ ⟨Nat.le_of_ble_eq_true rfl, Nat.le_of_ble_eq_true rfl⟩ rfl (Nat.le_of_ble_eq_true rfl) rfl rfl dX6_read_101 ?_
      refine ww_if_eq (pc := 104) (tgt := 119) C dX6_read_104 (by decide) (fun c129 => ?_) (fun c129 => ?_)
      · have hf := oa_ifp c129 hf
        refine ww_iconst (pc := 119) C dX6_read_119 kc_2 ?_
        refine ww_istore (pc := 120) (L' := [(0, .ref (a 0)), (3, .int x3), (4, .int x4), (5, .ref (a 48)), (6, .int 2), (7, .int x7), (8, .int x8), (9, .long y124)]) C [1, 2, 3, 4, 0, 5, 6, 7] dX6_read_120 (Nat.le_of_ble_eq_true rfl) rfl ?_
        refine ww_goto (pc := 122) (tgt := 164) C dX6_read_122 (by decide) ?_
        refine ww_iinc (pc := 164) (v := (x8 + 1)) (L' := [(0, .ref (a 0)), (3, .int x3), (4, .int x4), (5, .ref (a 48)), (6, .int 2), (7, .int x7), (8, .int (x8 + 1)), (9, .long y124)]) C 6 [1, 2, 3, 4, 5, 6, 0, 7] dX6_read_164 rfl (ki_1 _) (Nat.le_of_ble_eq_true rfl) rfl ?_
        refine ww_goto (pc := 167) (tgt := 73) C dX6_read_167 (by decide) ?_
        refine ww_sub C [0, 1, 2, 3, 4, 5, 6] rfl ?_
        exact hk73 B 2 x7 (x8 + 1) hf
      · have hf := oa_ifn c129 hf
        refine ww_aload (pc := 107) (i := 5) C 3 dX6_read_107 rfl ?_
        refine ww_lload (pc := 109) (i := 9) C 7 dX6_read_109 rfl ?_
        refine ww_lconst (pc := 111) C dX6_read_111 kl_1 ?_
        refine ww_ladd (pc := 112) C dX6_read_112 ?_
        obtain ⟨y130, e131, hf⟩ := oa_bind hf
        refine ww_callV (pc := 113) (As := [.long (y124 + 1)]) (rest := []) (wd := wd_S O (fun i => a (i + 48)) (B 10)) (ws' := wd_O O a B J) (rv := (some (.int y130))) C hY_X3_hasCell hV_X3_hasCell lk_X6_282 (m_X3_hasCell _ O (fun i => a (i + 48)) (B 10) (y124 + 1) _ e131) [48, 49] 48 rfl rfl rfl rfl rfl (oa_putS _ _ _ rfl) (fun _ h => h) ⟨rfl, rfl⟩ ⟨Nat.zero_le _, Nat.zero_le _⟩ ⟨Nat.le_of_ble_eq_true rfl, Nat.le_of_ble_eq_true rfl⟩ rfl (Nat.le_of_ble_eq_true rfl) rfl rfl dX6_read_113 ?_
        refine ww_if_ne (pc := 116) (tgt := 125) C dX6_read_116 (by decide) (fun c133 => ?_) (fun c133 => ?_)
        · have hf := oa_ifn c133 hf
          refine ww_aload_n (pc := 125) (i := 0) C 0 dX6_read_125 rfl rfl ?_
          refine ww_get (pc := 126) C fl_X6_16 0 rfl rfl dX6_read_126 ?_
          refine ww_aload (pc := 129) (i := 5) C 3 dX6_read_129 rfl ?_
          refine ww_get (pc := 131) C fl_X6_286 48 rfl rfl dX6_read_131 ?_
          refine ww_lload (pc := 134) (i := 9) C 7 dX6_read_134 rfl ?_
          refine ww_l2i (pc := 136) C dX6_read_136 ?_
          obtain ⟨y134, e135, hf⟩ := oa_bind hf
          refine ww_iald (pc := 137) C 49 rfl e135 dX6_read_137 ?_
          refine ww_aload (pc := 138) (i := 5) C 3 dX6_read_138 rfl ?_
          refine ww_get (pc := 140) C fl_X6_286 48 rfl rfl dX6_read_140 ?_
          refine ww_lload (pc := 143) (i := 9) C 7 dX6_read_143 rfl ?_
          refine ww_l2i (pc := 145) C dX6_read_145 ?_
          refine ww_iconst (pc := 146) C dX6_read_146 kc_1 ?_
          refine ww_iadd (pc := 147) C dX6_read_147 ?_
          obtain ⟨y136, e137, hf⟩ := oa_bind hf
          refine ww_iald (pc := 148) C 49 rfl e137 dX6_read_148 ?_
          obtain ⟨y138, V139, e140, hf⟩ := oa_bind2 hf
          obtain ⟨B142, e143, hf⟩ := oa_letE hf
          refine ww_callV (pc := 149) (As := [.int y134, .int y136]) (rest := []) (wd := wd_V O (fun i => a (i + 7)) V139) (ws' := wd_O O a B142 J) (rv := (some (.int y138))) C hY_X5_begin hV_X5_begin lk_X6_145 (m_X5_begin _ O (fun i => a (i + 7)) (B 1) y134 y136 _ e140) [7, 8, 9, 10, 11, 12] 7 rfl rfl rfl rfl rfl (by subst e143; rfl) (fun _ h => h) ⟨rfl, rfl⟩ ⟨Nat.zero_le _, Nat.zero_le _⟩ ⟨Nat.le_of_ble_eq_true rfl, Nat.le_of_ble_eq_true rfl⟩ rfl (Nat.le_of_ble_eq_true rfl) rfl rfl dX6_read_149 ?_
          refine ww_if_ge (pc := 152) (tgt := 161) C dX6_read_152 (by decide) (fun c144 => ?_) (fun c144 => ?_)
          · have hf := oa_ifp c144 hf
            refine ww_iinc (pc := 161) (v := (x7 + 1)) (L' := [(0, .ref (a 0)), (3, .int x3), (4, .int x4), (5, .ref (a 48)), (6, .int x6), (7, .int (x7 + 1)), (8, .int x8), (9, .long y124)]) C 5 [1, 2, 3, 4, 5, 0, 6, 7] dX6_read_161 rfl (ki_1 _) (Nat.le_of_ble_eq_true rfl) rfl ?_
            refine ww_iinc (pc := 164) (v := (x8 + 1)) (L' := [(0, .ref (a 0)), (3, .int x3), (4, .int x4), (5, .ref (a 48)), (6, .int x6), (7, .int (x7 + 1)), (8, .int (x8 + 1)), (9, .long y124)]) C 6 [1, 2, 3, 4, 5, 6, 0, 7] dX6_read_164 rfl (ki_1 _) (Nat.le_of_ble_eq_true rfl) rfl ?_
            refine ww_goto (pc := 167) (tgt := 73) C dX6_read_167 (by decide) ?_
            refine ww_sub C [0, 1, 2, 3, 4, 5, 6] rfl ?_
            exact hk73 B142 x6 (x7 + 1) (x8 + 1) hf
          · have hf := oa_ifn c144 hf
            refine ww_bipush (pc := 155) C dX6_read_155 kb_m20 ?_
            refine ww_iload (pc := 157) (i := 8) C 6 dX6_read_157 rfl ?_
            refine ww_isub (pc := 159) C dX6_read_159 ?_
            obtain rfl := Option.some.inj hf
            exact ww_iret (pc := 160) C rfl dX6_read_160
        · have hf := oa_ifp c133 hf
          refine ww_iconst (pc := 119) C dX6_read_119 kc_2 ?_
          refine ww_istore (pc := 120) (L' := [(0, .ref (a 0)), (3, .int x3), (4, .int x4), (5, .ref (a 48)), (6, .int 2), (7, .int x7), (8, .int x8), (9, .long y124)]) C [1, 2, 3, 4, 0, 5, 6, 7] dX6_read_120 (Nat.le_of_ble_eq_true rfl) rfl ?_
          refine ww_goto (pc := 122) (tgt := 164) C dX6_read_122 (by decide) ?_
          refine ww_iinc (pc := 164) (v := (x8 + 1)) (L' := [(0, .ref (a 0)), (3, .int x3), (4, .int x4), (5, .ref (a 48)), (6, .int 2), (7, .int x7), (8, .int (x8 + 1)), (9, .long y124)]) C 6 [1, 2, 3, 4, 5, 6, 0, 7] dX6_read_164 rfl (ki_1 _) (Nat.le_of_ble_eq_true rfl) rfl ?_
          refine ww_goto (pc := 167) (tgt := 73) C dX6_read_167 (by decide) ?_
          refine ww_sub C [0, 1, 2, 3, 4, 5, 6] rfl ?_
          exact hk73 B 2 x7 (x8 + 1) hf
theorem t_l_X6_read_73_48 {G : oa_G} {O : oa_O} {A : Nat → Prop} {a : Nat → Nat} {res : Int32 × oa_I3} (C : oa_C G cX6_read 11 RX6 (some .int) rm_X6_read O A) (J : oa_J2) (x1 : Int32) (x2 : Int32) (x3 : Int32) (x4 : Int32)    : ∀ (n : Nat) (B : oa_I3) (x6 : Int32) (x7 : Int32) (x8 : Int32), l_X6_read_73_48 J x1 x2 x3 x4 n B x6 x7 x8 = some res → ww G 11 O A (oa_Q G O A (0, 0) (some (.int res.1)) (fun W1 => W1 = wd_O O a res.2 J)) (0, 0) 73 [(0, .ref (a 0)), (3, .int x3), (4, .int x4), (5, .ref (a 48)), (6, .int x6), (7, .int x7), (8, .int x8)] [] (wd_O O a B J) := by
  intro n
  induction n with
  | zero => intro B x6 x7 x8 hf; exact absurd (show (none : Option (Int32 × oa_I3)) = some res from hf) (fun h => nomatch h)
  | succ n ih =>
    intro B x6 x7 x8 hf
    exact t_b_X6_read_73_48 C J x1 x2 x3 x4  (fun B x6 x7 x8 => l_X6_read_73_48 J x1 x2 x3 x4 n B x6 x7 x8)  (fun B x6 x7 x8 h => ih B x6 x7 x8 h) B x6 x7 x8 hf
theorem t_b_X6_read_54_48 {G : oa_G} {O : oa_O} {A : Nat → Prop} {a : Nat → Nat} {res : Int32 × oa_I3} (C : oa_C G cX6_read 11 RX6 (some .int) rm_X6_read O A) (J : oa_J2) (x1 : Int32) (x2 : Int32) (x3 : Int32) (x4 : Int32)  (B : oa_I3) (s0 : Int32)    (hf : b_X6_read_54_48 J x1 x2 x3 x4 B s0 = some res) : ww G 11 O A (oa_Q G O A (0, 0) (some (.int res.1)) (fun W1 => W1 = wd_O O a res.2 J)) (0, 0) 54 [(0, .ref (a 0)), (3, .int x3), (4, .int x4), (5, .ref (a 48))] [.int s0] (wd_O O a B J) := by
  delta b_X6_read_54_48 at hf
  refine ww_istore (pc := 54) (L' := [(0, .ref (a 0)), (3, .int x3), (4, .int x4), (5, .ref (a 48)), (6, .int s0)]) C [1, 2, 3, 4, 0] dX6_read_54 (Nat.le_of_ble_eq_true rfl) rfl ?_
  refine ww_iconst (pc := 56) C dX6_read_56 kc_0 ?_
  refine ww_istore (pc := 57) (L' := [(0, .ref (a 0)), (3, .int x3), (4, .int x4), (5, .ref (a 48)), (6, .int s0), (7, .int 0)]) C [1, 2, 3, 4, 5, 0] dX6_read_57 (Nat.le_of_ble_eq_true rfl) rfl ?_
  refine ww_aload_n (pc := 59) (i := 0) C 0 dX6_read_59 rfl rfl ?_
  refine ww_get (pc := 60) C fl_X6_16 0 rfl rfl dX6_read_60 ?_
  refine ww_aload_n (pc := 63) (i := 0) C 0 dX6_read_63 rfl rfl ?_
  refine ww_get (pc := 64) C fl_X6_10 0 rfl rfl dX6_read_64 ?_
  obtain ⟨V48, e49, hf⟩ := oa_bind hf
  obtain ⟨B51, e52, hf⟩ := oa_letE hf
  refine ww_callV (pc := 67) (As := [.ref (a 1)]) (rest := []) (wd := wd_VV O (fun i => a (i + 7)) (fun i => a (i + 1)) V48 (B 0)) (ws' := wd_O O a B51 J) (rv := none) C hY_X5_copyOf hV_X5_copyOf lk_X6_89 (m_X5_copyOf _ O (fun i => a (i + 7)) (fun i => a (i + 1)) (B 1) (B 0) _ e49) [7, 8, 9, 10, 11, 12, 1, 2, 3, 4, 5, 6] 7 rfl rfl rfl rfl rfl (by subst e52; rfl) (fun _ h => h) ⟨rfl, rfl⟩ ⟨Nat.zero_le _, Nat.zero_le _⟩ ⟨Nat.le_of_ble_eq_true rfl, Nat.le_of_ble_eq_true rfl⟩ rfl (Nat.le_of_ble_eq_true rfl) rfl rfl dX6_read_67 ?_
  refine ww_iconst (pc := 70) C dX6_read_70 kc_0 ?_
  refine ww_istore (pc := 71) (L' := [(0, .ref (a 0)), (3, .int x3), (4, .int x4), (5, .ref (a 48)), (6, .int s0), (7, .int 0), (8, .int 0)]) C [1, 2, 3, 4, 5, 6, 0] dX6_read_71 (Nat.le_of_ble_eq_true rfl) rfl ?_
  exact t_l_X6_read_73_48 C J x1 x2 x3 x4    oa_fu B51 s0 0 0 hf
theorem m_X6_read (l : Launch) (O : oa_O) (a : Nat → Nat) (B : oa_I3) (J : oa_J2) (x1 : Int32) (x2 : Int32) (x3 : Int32) (x4 : Int32) (res : Int32 × oa_I3) (hf : f_X6_read B J x1 x2 x3 x4 = some res) : oa_M l yX6_read cX6_read 11 (some .int) rm_X6_read O [.ref (a 0), .int x1, .int x2, .int x3, .int x4] (wd_O O a B J) (some (.int res.1)) (fun W1 => W1 = wd_O O a res.2 J) := by
  refine oa_Mof (by decide) (Nat.le_of_ble_eq_true rfl) (fun G A hl C => ?_)
  subst hl
  have C : oa_C G cX6_read 11 RX6 (some .int) rm_X6_read O A := C
  have hf : f_X6_read B J x1 x2 x3 x4 = some res := hf
  delta f_X6_read at hf
  show ww G 11 O A (oa_Q G O A (0, 0) (some (.int res.1)) (fun W1 => W1 = wd_O O a res.2 J)) (0, 0) 0 [(0, .ref (a 0)), (1, .int x1), (2, .int x2), (3, .int x3), (4, .int x4)] [] (wd_O O a B J)
  refine ww_iload_n (pc := 0) (i := 1) C 1 dX6_read_0 rfl rfl ?_
  refine ww_iconst (pc := 1) C dX6_read_1 kc_0 ?_
  refine ww_iconst (pc := 2) C dX6_read_2 kc_3 ?_
  obtain ⟨y1, e2, hf⟩ := oa_bind hf
  refine ww_callS (pc := 3) (As := [.int x1, .int 0, .int 3]) (rest := []) (wd := []) (ws' := wd_O O a B J) (rv := (some (.int y1))) C hY_X6_within hS_X6_within lk_X6_96 (m_X6_within _ O  x1 0 3 _ e2) [] rfl rfl rfl (oa_putS _ _ _ rfl) (fun _ h => h) ⟨rfl, rfl⟩ ⟨Nat.zero_le _, Nat.zero_le _⟩ ⟨Nat.le_of_ble_eq_true rfl, Nat.le_of_ble_eq_true rfl⟩ rfl (Nat.le_of_ble_eq_true rfl) rfl rfl dX6_read_3 ?_
  refine ww_if_eq (pc := 6) (tgt := 29) C dX6_read_6 (by decide) (fun c4 => ?_) (fun c4 => ?_)
  · have hf := oa_ifp c4 hf
    refine ww_iconst (pc := 29) C dX6_read_29 kc_m1 ?_
    obtain rfl := Option.some.inj hf
    exact ww_iret (pc := 30) C rfl dX6_read_30
  · have hf := oa_ifn c4 hf
    refine ww_iload_n (pc := 9) (i := 2) C 2 dX6_read_9 rfl rfl ?_
    refine ww_iconst (pc := 10) C dX6_read_10 kc_0 ?_
    refine ww_iconst (pc := 11) C dX6_read_11 kc_2 ?_
    obtain ⟨y5, e6, hf⟩ := oa_bind hf
    refine ww_callS (pc := 12) (As := [.int x2, .int 0, .int 2]) (rest := []) (wd := []) (ws' := wd_O O a B J) (rv := (some (.int y5))) C hY_X6_within hS_X6_within lk_X6_96 (m_X6_within _ O  x2 0 2 _ e6) [] rfl rfl rfl (oa_putS _ _ _ rfl) (fun _ h => h) ⟨rfl, rfl⟩ ⟨Nat.zero_le _, Nat.zero_le _⟩ ⟨Nat.le_of_ble_eq_true rfl, Nat.le_of_ble_eq_true rfl⟩ rfl (Nat.le_of_ble_eq_true rfl) rfl rfl dX6_read_12 ?_
    refine ww_if_eq (pc := 15) (tgt := 29) C dX6_read_15 (by decide) (fun c8 => ?_) (fun c8 => ?_)
    · have hf := oa_ifp c8 hf
      refine ww_iconst (pc := 29) C dX6_read_29 kc_m1 ?_
      obtain rfl := Option.some.inj hf
      exact ww_iret (pc := 30) C rfl dX6_read_30
    · have hf := oa_ifn c8 hf
      refine ww_iload (pc := 18) (i := 4) C 4 dX6_read_18 rfl ?_
      refine ww_iconst (pc := 20) C dX6_read_20 kc_0 ?_
      refine ww_bipush (pc := 21) C dX6_read_21 kb_12 ?_
      obtain ⟨y9, e10, hf⟩ := oa_bind hf
      refine ww_callS (pc := 23) (As := [.int x4, .int 0, .int 12]) (rest := []) (wd := []) (ws' := wd_O O a B J) (rv := (some (.int y9))) C hY_X6_within hS_X6_within lk_X6_96 (m_X6_within _ O  x4 0 12 _ e10) [] rfl rfl rfl (oa_putS _ _ _ rfl) (fun _ h => h) ⟨rfl, rfl⟩ ⟨Nat.zero_le _, Nat.zero_le _⟩ ⟨Nat.le_of_ble_eq_true rfl, Nat.le_of_ble_eq_true rfl⟩ rfl (Nat.le_of_ble_eq_true rfl) rfl rfl dX6_read_23 ?_
      refine ww_if_ne (pc := 26) (tgt := 31) C dX6_read_26 (by decide) (fun c12 => ?_) (fun c12 => ?_)
      · have hf := oa_ifn c12 hf
        refine ww_aload_n (pc := 31) (i := 0) C 0 dX6_read_31 rfl rfl ?_
        refine ww_get (pc := 32) C fl_X6_36 0 rfl rfl dX6_read_32 ?_
        refine ww_iload_n (pc := 35) (i := 1) C 1 dX6_read_35 rfl rfl ?_
        by_cases c13 : x1 = 0
        · have hf := oa_ifp c13 hf
          refine ww_aald (pc := 36) (i0 := 0) (b := (a 42)) (Cn := "OneAnger$Sheet") C 23 rfl rfl c13 (by decide) (by decide) rfl dX6_read_36 ?_
          refine ww_astore (pc := 37) (L' := [(0, .ref (a 0)), (1, .int x1), (2, .int x2), (3, .int x3), (4, .int x4), (5, .ref (a 42))]) C [1, 2, 3, 4, 5, 0] dX6_read_37 (Nat.le_of_ble_eq_true rfl) rfl ?_
          refine ww_iload (pc := 39) (i := 4) C 4 dX6_read_39 rfl ?_
          refine ww_if_ne (pc := 41) (tgt := 48) C dX6_read_41 (by decide) (fun c14 => ?_) (fun c14 => ?_)
          · have hf := oa_ifn c14 hf
            refine ww_aload (pc := 48) (i := 5) C 5 dX6_read_48 rfl ?_
            refine ww_iload_n (pc := 50) (i := 2) C 2 dX6_read_50 rfl rfl ?_
            obtain ⟨y15, e16, hf⟩ := oa_bind hf
            refine ww_callV (pc := 51) (As := [.int x2]) (rest := []) (wd := wd_S O (fun i => a (i + 42)) (B 7)) (ws' := wd_O O a B J) (rv := (some (.int y15))) C hY_X3_faultAs hV_X3_faultAs lk_X6_277 (m_X3_faultAs _ O (fun i => a (i + 42)) (B 7) x2 _ e16) [42, 43] 42 rfl rfl rfl rfl rfl (oa_putS _ _ _ rfl) (fun _ h => h) ⟨rfl, rfl⟩ ⟨Nat.zero_le _, Nat.zero_le _⟩ ⟨Nat.le_of_ble_eq_true rfl, Nat.le_of_ble_eq_true rfl⟩ rfl (Nat.le_of_ble_eq_true rfl) rfl rfl dX6_read_51 ?_
            refine ww_sub C [0, 3, 4, 5] rfl ?_
            exact t_b_X6_read_54_42 C J x1 x2 x3 x4 B y15   hf
          · have hf := oa_ifp c14 hf
            refine ww_iconst (pc := 44) C dX6_read_44 kc_0 ?_
            refine ww_goto (pc := 45) (tgt := 54) C dX6_read_45 (by decide) ?_
            refine ww_sub C [0, 3, 4, 5] rfl ?_
            exact t_b_X6_read_54_42 C J x1 x2 x3 x4 B 0   hf
        have hf := oa_ifn c13 hf
        by_cases c18 : x1 = 1
        · have hf := oa_ifp c18 hf
          refine ww_aald (pc := 36) (i0 := 1) (b := (a 44)) (Cn := "OneAnger$Sheet") C 23 rfl rfl c18 (by decide) (by decide) rfl dX6_read_36 ?_
          refine ww_astore (pc := 37) (L' := [(0, .ref (a 0)), (1, .int x1), (2, .int x2), (3, .int x3), (4, .int x4), (5, .ref (a 44))]) C [1, 2, 3, 4, 5, 0] dX6_read_37 (Nat.le_of_ble_eq_true rfl) rfl ?_
          refine ww_iload (pc := 39) (i := 4) C 4 dX6_read_39 rfl ?_
          refine ww_if_ne (pc := 41) (tgt := 48) C dX6_read_41 (by decide) (fun c19 => ?_) (fun c19 => ?_)
          · have hf := oa_ifn c19 hf
            refine ww_aload (pc := 48) (i := 5) C 5 dX6_read_48 rfl ?_
            refine ww_iload_n (pc := 50) (i := 2) C 2 dX6_read_50 rfl rfl ?_
            obtain ⟨y20, e21, hf⟩ := oa_bind hf
            refine ww_callV (pc := 51) (As := [.int x2]) (rest := []) (wd := wd_S O (fun i => a (i + 44)) (B 8)) (ws' := wd_O O a B J) (rv := (some (.int y20))) C hY_X3_faultAs hV_X3_faultAs lk_X6_277 (m_X3_faultAs _ O (fun i => a (i + 44)) (B 8) x2 _ e21) [44, 45] 44 rfl rfl rfl rfl rfl (oa_putS _ _ _ rfl) (fun _ h => h) ⟨rfl, rfl⟩ ⟨Nat.zero_le _, Nat.zero_le _⟩ ⟨Nat.le_of_ble_eq_true rfl, Nat.le_of_ble_eq_true rfl⟩ rfl (Nat.le_of_ble_eq_true rfl) rfl rfl dX6_read_51 ?_
            refine ww_sub C [0, 3, 4, 5] rfl ?_
            exact t_b_X6_read_54_44 C J x1 x2 x3 x4 B y20   hf
          · have hf := oa_ifp c19 hf
            refine ww_iconst (pc := 44) C dX6_read_44 kc_0 ?_
            refine ww_goto (pc := 45) (tgt := 54) C dX6_read_45 (by decide) ?_
            refine ww_sub C [0, 3, 4, 5] rfl ?_
            exact t_b_X6_read_54_44 C J x1 x2 x3 x4 B 0   hf
        have hf := oa_ifn c18 hf
        by_cases c23 : x1 = 2
        · have hf := oa_ifp c23 hf
          refine ww_aald (pc := 36) (i0 := 2) (b := (a 46)) (Cn := "OneAnger$Sheet") C 23 rfl rfl c23 (by decide) (by decide) rfl dX6_read_36 ?_
          refine ww_astore (pc := 37) (L' := [(0, .ref (a 0)), (1, .int x1), (2, .int x2), (3, .int x3), (4, .int x4), (5, .ref (a 46))]) C [1, 2, 3, 4, 5, 0] dX6_read_37 (Nat.le_of_ble_eq_true rfl) rfl ?_
          refine ww_iload (pc := 39) (i := 4) C 4 dX6_read_39 rfl ?_
          refine ww_if_ne (pc := 41) (tgt := 48) C dX6_read_41 (by decide) (fun c24 => ?_) (fun c24 => ?_)
          · have hf := oa_ifn c24 hf
            refine ww_aload (pc := 48) (i := 5) C 5 dX6_read_48 rfl ?_
            refine ww_iload_n (pc := 50) (i := 2) C 2 dX6_read_50 rfl rfl ?_
            obtain ⟨y25, e26, hf⟩ := oa_bind hf
            refine ww_callV (pc := 51) (As := [.int x2]) (rest := []) (wd := wd_S O (fun i => a (i + 46)) (B 9)) (ws' := wd_O O a B J) (rv := (some (.int y25))) C hY_X3_faultAs hV_X3_faultAs lk_X6_277 (m_X3_faultAs _ O (fun i => a (i + 46)) (B 9) x2 _ e26) [46, 47] 46 rfl rfl rfl rfl rfl (oa_putS _ _ _ rfl) (fun _ h => h) ⟨rfl, rfl⟩ ⟨Nat.zero_le _, Nat.zero_le _⟩ ⟨Nat.le_of_ble_eq_true rfl, Nat.le_of_ble_eq_true rfl⟩ rfl (Nat.le_of_ble_eq_true rfl) rfl rfl dX6_read_51 ?_
            refine ww_sub C [0, 3, 4, 5] rfl ?_
            exact t_b_X6_read_54_46 C J x1 x2 x3 x4 B y25   hf
          · have hf := oa_ifp c24 hf
            refine ww_iconst (pc := 44) C dX6_read_44 kc_0 ?_
            refine ww_goto (pc := 45) (tgt := 54) C dX6_read_45 (by decide) ?_
            refine ww_sub C [0, 3, 4, 5] rfl ?_
            exact t_b_X6_read_54_46 C J x1 x2 x3 x4 B 0   hf
        have hf := oa_ifn c23 hf
        by_cases c28 : x1 = 3
        · have hf := oa_ifp c28 hf
          refine ww_aald (pc := 36) (i0 := 3) (b := (a 48)) (Cn := "OneAnger$Sheet") C 23 rfl rfl c28 (by decide) (by decide) rfl dX6_read_36 ?_
          refine ww_astore (pc := 37) (L' := [(0, .ref (a 0)), (1, .int x1), (2, .int x2), (3, .int x3), (4, .int x4), (5, .ref (a 48))]) C [1, 2, 3, 4, 5, 0] dX6_read_37 (Nat.le_of_ble_eq_true rfl) rfl ?_
          refine ww_iload (pc := 39) (i := 4) C 4 dX6_read_39 rfl ?_
          refine ww_if_ne (pc := 41) (tgt := 48) C dX6_read_41 (by decide) (fun c29 => ?_) (fun c29 => ?_)
          · have hf := oa_ifn c29 hf
            refine ww_aload (pc := 48) (i := 5) C 5 dX6_read_48 rfl ?_
            refine ww_iload_n (pc := 50) (i := 2) C 2 dX6_read_50 rfl rfl ?_
            obtain ⟨y30, e31, hf⟩ := oa_bind hf
            refine ww_callV (pc := 51) (As := [.int x2]) (rest := []) (wd := wd_S O (fun i => a (i + 48)) (B 10)) (ws' := wd_O O a B J) (rv := (some (.int y30))) C hY_X3_faultAs hV_X3_faultAs lk_X6_277 (m_X3_faultAs _ O (fun i => a (i + 48)) (B 10) x2 _ e31) [48, 49] 48 rfl rfl rfl rfl rfl (oa_putS _ _ _ rfl) (fun _ h => h) ⟨rfl, rfl⟩ ⟨Nat.zero_le _, Nat.zero_le _⟩ ⟨Nat.le_of_ble_eq_true rfl, Nat.le_of_ble_eq_true rfl⟩ rfl (Nat.le_of_ble_eq_true rfl) rfl rfl dX6_read_51 ?_
            refine ww_sub C [0, 3, 4, 5] rfl ?_
            exact t_b_X6_read_54_48 C J x1 x2 x3 x4 B y30   hf
          · have hf := oa_ifp c29 hf
            refine ww_iconst (pc := 44) C dX6_read_44 kc_0 ?_
            refine ww_goto (pc := 45) (tgt := 54) C dX6_read_45 (by decide) ?_
            refine ww_sub C [0, 3, 4, 5] rfl ?_
            exact t_b_X6_read_54_48 C J x1 x2 x3 x4 B 0   hf
        have hf := oa_ifn c28 hf
        exact nomatch hf
      · have hf := oa_ifp c12 hf
        refine ww_iconst (pc := 29) C dX6_read_29 kc_m1 ?_
        obtain rfl := Option.some.inj hf
        exact ww_iret (pc := 30) C rfl dX6_read_30
theorem dX6_rest_0 : decode cX6_rest 0 = .ok (.aload_n 0, 1) := by decide +kernel
theorem dX6_rest_1 : decode cX6_rest 1 = .ok (.getfield 10, 3) := by decide +kernel
theorem dX6_rest_4 : decode cX6_rest 4 = .ok (.iload_n 1, 1) := by decide +kernel
theorem dX6_rest_5 : decode cX6_rest 5 = .ok (.iload_n 2, 1) := by decide +kernel
theorem dX6_rest_6 : decode cX6_rest 6 = .ok (.invokevirtual 148, 3) := by decide +kernel
theorem dX6_rest_9 : decode cX6_rest 9 = .ok (.ifCond .ne 5, 3) := by decide +kernel
theorem dX6_rest_12 : decode cX6_rest 12 = .ok (.iconst (-1), 1) := by decide +kernel
theorem dX6_rest_13 : decode cX6_rest 13 = .ok (.ireturn, 1) := by decide +kernel
theorem dX6_rest_14 : decode cX6_rest 14 = .ok (.aload_n 0, 1) := by decide +kernel
theorem dX6_rest_15 : decode cX6_rest 15 = .ok (.getfield 10, 3) := by decide +kernel
theorem dX6_rest_18 : decode cX6_rest 18 = .ok (.iload_n 1, 1) := by decide +kernel
theorem dX6_rest_19 : decode cX6_rest 19 = .ok (.iload_n 2, 1) := by decide +kernel
theorem dX6_rest_20 : decode cX6_rest 20 = .ok (.invokevirtual 135, 3) := by decide +kernel
theorem dX6_rest_23 : decode cX6_rest 23 = .ok (.ifCond .ne 6, 3) := by decide +kernel
theorem dX6_rest_26 : decode cX6_rest 26 = .ok (.bipush (-4), 2) := by decide +kernel
theorem dX6_rest_28 : decode cX6_rest 28 = .ok (.ireturn, 1) := by decide +kernel
theorem dX6_rest_29 : decode cX6_rest 29 = .ok (.aload_n 0, 1) := by decide +kernel
theorem dX6_rest_30 : decode cX6_rest 30 = .ok (.getfield 10, 3) := by decide +kernel
theorem dX6_rest_33 : decode cX6_rest 33 = .ok (.iload_n 1, 1) := by decide +kernel
theorem dX6_rest_34 : decode cX6_rest 34 = .ok (.iload_n 2, 1) := by decide +kernel
theorem dX6_rest_35 : decode cX6_rest 35 = .ok (.invokevirtual 151, 3) := by decide +kernel
theorem dX6_rest_38 : decode cX6_rest 38 = .ok (.aload_n 0, 1) := by decide +kernel
theorem dX6_rest_39 : decode cX6_rest 39 = .ok (.getfield 10, 3) := by decide +kernel
theorem dX6_rest_42 : decode cX6_rest 42 = .ok (.iload_n 1, 1) := by decide +kernel
theorem dX6_rest_43 : decode cX6_rest 43 = .ok (.invokevirtual 155, 3) := by decide +kernel
theorem dX6_rest_46 : decode cX6_rest 46 = .ok (.ireturn, 1) := by decide +kernel
abbrev rm_X6_rest : Room := { frames := 4, cells := 0, slots := 0, locals := 87 }
theorem m_X6_rest (l : Launch) (O : oa_O) (a : Nat → Nat) (B : oa_I3) (J : oa_J2) (x1 : Int32) (x2 : Int32) (res : Int32 × oa_I3) (hf : f_X6_rest B J x1 x2 = some res) : oa_M l yX6_rest cX6_rest 3 (some .int) rm_X6_rest O [.ref (a 0), .int x1, .int x2] (wd_O O a B J) (some (.int res.1)) (fun W1 => W1 = wd_O O a res.2 J) := by
  refine oa_Mof (by decide) (Nat.le_of_ble_eq_true rfl) (fun G A hl C => ?_)
  subst hl
  have C : oa_C G cX6_rest 3 RX6 (some .int) rm_X6_rest O A := C
  have hf : f_X6_rest B J x1 x2 = some res := hf
  delta f_X6_rest at hf
  show ww G 3 O A (oa_Q G O A (0, 0) (some (.int res.1)) (fun W1 => W1 = wd_O O a res.2 J)) (0, 0) 0 [(0, .ref (a 0)), (1, .int x1), (2, .int x2)] [] (wd_O O a B J)
  refine ww_aload_n (pc := 0) (i := 0) C 0 dX6_rest_0 rfl rfl ?_
  refine ww_get (pc := 1) C fl_X6_10 0 rfl rfl dX6_rest_1 ?_
  refine ww_iload_n (pc := 4) (i := 1) C 1 dX6_rest_4 rfl rfl ?_
  refine ww_iload_n (pc := 5) (i := 2) C 2 dX6_rest_5 rfl rfl ?_
  obtain ⟨y1, e2, hf⟩ := oa_bind hf
  refine ww_callV (pc := 6) (As := [.int x1, .int x2]) (rest := []) (wd := wd_V O (fun i => a (i + 1)) (B 0)) (ws' := wd_O O a B J) (rv := (some (.int y1))) C hY_X5_canMeet hV_X5_canMeet lk_X6_148 (m_X5_canMeet _ O (fun i => a (i + 1)) (B 0) x1 x2 _ e2) [1, 2, 3, 4, 5, 6] 1 rfl rfl rfl rfl rfl (oa_putS _ _ _ rfl) (fun _ h => h) ⟨rfl, rfl⟩ ⟨Nat.zero_le _, Nat.zero_le _⟩ ⟨Nat.le_of_ble_eq_true rfl, Nat.le_of_ble_eq_true rfl⟩ rfl (Nat.le_of_ble_eq_true rfl) rfl rfl dX6_rest_6 ?_
  refine ww_if_ne (pc := 9) (tgt := 14) C dX6_rest_9 (by decide) (fun c4 => ?_) (fun c4 => ?_)
  · have hf := oa_ifn c4 hf
    refine ww_aload_n (pc := 14) (i := 0) C 0 dX6_rest_14 rfl rfl ?_
    refine ww_get (pc := 15) C fl_X6_10 0 rfl rfl dX6_rest_15 ?_
    refine ww_iload_n (pc := 18) (i := 1) C 1 dX6_rest_18 rfl rfl ?_
    refine ww_iload_n (pc := 19) (i := 2) C 2 dX6_rest_19 rfl rfl ?_
    obtain ⟨y5, e6, hf⟩ := oa_bind hf
    refine ww_callV (pc := 20) (As := [.int x1, .int x2]) (rest := []) (wd := wd_V O (fun i => a (i + 1)) (B 0)) (ws' := wd_O O a B J) (rv := (some (.int y5))) C hY_X5_isAngry hV_X5_isAngry lk_X6_135 (m_X5_isAngry _ O (fun i => a (i + 1)) (B 0) x1 x2 _ e6) [1, 2, 3, 4, 5, 6] 1 rfl rfl rfl rfl rfl (oa_putS _ _ _ rfl) (fun _ h => h) ⟨rfl, rfl⟩ ⟨Nat.zero_le _, Nat.zero_le _⟩ ⟨Nat.le_of_ble_eq_true rfl, Nat.le_of_ble_eq_true rfl⟩ rfl (Nat.le_of_ble_eq_true rfl) rfl rfl dX6_rest_20 ?_
    refine ww_if_ne (pc := 23) (tgt := 29) C dX6_rest_23 (by decide) (fun c8 => ?_) (fun c8 => ?_)
    · have hf := oa_ifn c8 hf
      refine ww_aload_n (pc := 29) (i := 0) C 0 dX6_rest_29 rfl rfl ?_
      refine ww_get (pc := 30) C fl_X6_10 0 rfl rfl dX6_rest_30 ?_
      refine ww_iload_n (pc := 33) (i := 1) C 1 dX6_rest_33 rfl rfl ?_
      refine ww_iload_n (pc := 34) (i := 2) C 2 dX6_rest_34 rfl rfl ?_
      obtain ⟨V9, e10, hf⟩ := oa_bind hf
      obtain ⟨B12, e13, hf⟩ := oa_letE hf
      refine ww_callV (pc := 35) (As := [.int x1, .int x2]) (rest := []) (wd := wd_V O (fun i => a (i + 1)) V9) (ws' := wd_O O a B12 J) (rv := none) C hY_X5_stop hV_X5_stop lk_X6_151 (m_X5_stop _ O (fun i => a (i + 1)) (B 0) x1 x2 _ e10) [1, 2, 3, 4, 5, 6] 1 rfl rfl rfl rfl rfl (by subst e13; rfl) (fun _ h => h) ⟨rfl, rfl⟩ ⟨Nat.zero_le _, Nat.zero_le _⟩ ⟨Nat.le_of_ble_eq_true rfl, Nat.le_of_ble_eq_true rfl⟩ rfl (Nat.le_of_ble_eq_true rfl) rfl rfl dX6_rest_35 ?_
      refine ww_aload_n (pc := 38) (i := 0) C 0 dX6_rest_38 rfl rfl ?_
      refine ww_get (pc := 39) C fl_X6_10 0 rfl rfl dX6_rest_39 ?_
      refine ww_iload_n (pc := 42) (i := 1) C 1 dX6_rest_42 rfl rfl ?_
      obtain ⟨y14, e15, hf⟩ := oa_bind hf
      refine ww_callV (pc := 43) (As := [.int x1]) (rest := []) (wd := wd_V O (fun i => a (i + 1)) (B12 0)) (ws' := wd_O O a B12 J) (rv := (some (.int y14))) C hY_X5_angersOf hV_X5_angersOf lk_X6_155 (m_X5_angersOf _ O (fun i => a (i + 1)) (B12 0) x1 _ e15) [1, 2, 3, 4, 5, 6] 1 rfl rfl rfl rfl rfl (oa_putS _ _ _ rfl) (fun _ h => h) ⟨rfl, rfl⟩ ⟨Nat.zero_le _, Nat.zero_le _⟩ ⟨Nat.le_of_ble_eq_true rfl, Nat.le_of_ble_eq_true rfl⟩ rfl (Nat.le_of_ble_eq_true rfl) rfl rfl dX6_rest_43 ?_
      obtain rfl := Option.some.inj hf
      exact ww_iret (pc := 46) C rfl dX6_rest_46
    · have hf := oa_ifp c8 hf
      refine ww_bipush (pc := 26) C dX6_rest_26 kb_m4 ?_
      obtain rfl := Option.some.inj hf
      exact ww_iret (pc := 28) C rfl dX6_rest_28
  · have hf := oa_ifp c4 hf
    refine ww_iconst (pc := 12) C dX6_rest_12 kc_m1 ?_
    obtain rfl := Option.some.inj hf
    exact ww_iret (pc := 13) C rfl dX6_rest_13
theorem dX6_ring_0 : decode cX6_ring 0 = .ok (.iload_n 1, 1) := by decide +kernel
theorem dX6_ring_1 : decode cX6_ring 1 = .ok (.iconst 0, 1) := by decide +kernel
theorem dX6_ring_2 : decode cX6_ring 2 = .ok (.iconst 2, 1) := by decide +kernel
theorem dX6_ring_3 : decode cX6_ring 3 = .ok (.invokestatic 96, 3) := by decide +kernel
theorem dX6_ring_6 : decode cX6_ring 6 = .ok (.ifCond .ne 5, 3) := by decide +kernel
theorem dX6_ring_9 : decode cX6_ring 9 = .ok (.iconst (-1), 1) := by decide +kernel
theorem dX6_ring_10 : decode cX6_ring 10 = .ok (.ireturn, 1) := by decide +kernel
theorem dX6_ring_11 : decode cX6_ring 11 = .ok (.aload_n 0, 1) := by decide +kernel
theorem dX6_ring_12 : decode cX6_ring 12 = .ok (.getfield 50, 3) := by decide +kernel
theorem dX6_ring_15 : decode cX6_ring 15 = .ok (.aload_n 0, 1) := by decide +kernel
theorem dX6_ring_16 : decode cX6_ring 16 = .ok (.getfield 10, 3) := by decide +kernel
theorem dX6_ring_19 : decode cX6_ring 19 = .ok (.invokevirtual 239, 3) := by decide +kernel
theorem dX6_ring_22 : decode cX6_ring 22 = .ok (.iload_n 1, 1) := by decide +kernel
theorem dX6_ring_23 : decode cX6_ring 23 = .ok (.lookupswitch 41 #[(0, 25), (1, 33)], 25) := by decide +kernel
theorem dX6_ring_48 : decode cX6_ring 48 = .ok (.aload_n 0, 1) := by decide +kernel
theorem dX6_ring_49 : decode cX6_ring 49 = .ok (.getfield 50, 3) := by decide +kernel
theorem dX6_ring_52 : decode cX6_ring 52 = .ok (.getfield 242, 3) := by decide +kernel
theorem dX6_ring_55 : decode cX6_ring 55 = .ok (.ireturn, 1) := by decide +kernel
theorem dX6_ring_56 : decode cX6_ring 56 = .ok (.aload_n 0, 1) := by decide +kernel
theorem dX6_ring_57 : decode cX6_ring 57 = .ok (.getfield 50, 3) := by decide +kernel
theorem dX6_ring_60 : decode cX6_ring 60 = .ok (.getfield 245, 3) := by decide +kernel
theorem dX6_ring_63 : decode cX6_ring 63 = .ok (.ireturn, 1) := by decide +kernel
theorem dX6_ring_64 : decode cX6_ring 64 = .ok (.aload_n 0, 1) := by decide +kernel
theorem dX6_ring_65 : decode cX6_ring 65 = .ok (.getfield 50, 3) := by decide +kernel
theorem dX6_ring_68 : decode cX6_ring 68 = .ok (.getfield 248, 3) := by decide +kernel
theorem dX6_ring_71 : decode cX6_ring 71 = .ok (.ireturn, 1) := by decide +kernel
abbrev rm_X6_ring : Room := { frames := 4, cells := 0, slots := 0, locals := 94 }
theorem m_X6_ring (l : Launch) (O : oa_O) (a : Nat → Nat) (B : oa_I3) (J : oa_J2) (x1 : Int32) (res : Int32 × oa_I3) (hf : f_X6_ring B J x1 = some res) : oa_M l yX6_ring cX6_ring 2 (some .int) rm_X6_ring O [.ref (a 0), .int x1] (wd_O O a B J) (some (.int res.1)) (fun W1 => W1 = wd_O O a res.2 J) := by
  refine oa_Mof (by decide) (Nat.le_of_ble_eq_true rfl) (fun G A hl C => ?_)
  subst hl
  have C : oa_C G cX6_ring 2 RX6 (some .int) rm_X6_ring O A := C
  have hf : f_X6_ring B J x1 = some res := hf
  delta f_X6_ring at hf
  show ww G 2 O A (oa_Q G O A (0, 0) (some (.int res.1)) (fun W1 => W1 = wd_O O a res.2 J)) (0, 0) 0 [(0, .ref (a 0)), (1, .int x1)] [] (wd_O O a B J)
  refine ww_iload_n (pc := 0) (i := 1) C 1 dX6_ring_0 rfl rfl ?_
  refine ww_iconst (pc := 1) C dX6_ring_1 kc_0 ?_
  refine ww_iconst (pc := 2) C dX6_ring_2 kc_2 ?_
  obtain ⟨y1, e2, hf⟩ := oa_bind hf
  refine ww_callS (pc := 3) (As := [.int x1, .int 0, .int 2]) (rest := []) (wd := []) (ws' := wd_O O a B J) (rv := (some (.int y1))) C hY_X6_within hS_X6_within lk_X6_96 (m_X6_within _ O  x1 0 2 _ e2) [] rfl rfl rfl (oa_putS _ _ _ rfl) (fun _ h => h) ⟨rfl, rfl⟩ ⟨Nat.zero_le _, Nat.zero_le _⟩ ⟨Nat.le_of_ble_eq_true rfl, Nat.le_of_ble_eq_true rfl⟩ rfl (Nat.le_of_ble_eq_true rfl) rfl rfl dX6_ring_3 ?_
  refine ww_if_ne (pc := 6) (tgt := 11) C dX6_ring_6 (by decide) (fun c4 => ?_) (fun c4 => ?_)
  · have hf := oa_ifn c4 hf
    refine ww_aload_n (pc := 11) (i := 0) C 0 dX6_ring_11 rfl rfl ?_
    refine ww_get (pc := 12) C fl_X6_50 0 rfl rfl dX6_ring_12 ?_
    refine ww_aload_n (pc := 15) (i := 0) C 0 dX6_ring_15 rfl rfl ?_
    refine ww_get (pc := 16) C fl_X6_10 0 rfl rfl dX6_ring_16 ?_
    obtain ⟨R5, e6, hf⟩ := oa_bind hf
    obtain ⟨B8, e9, hf⟩ := oa_letE hf
    refine ww_callV (pc := 19) (As := [.ref (a 1)]) (rest := []) (wd := wd_RV O (fun i => a (i + 26)) (fun i => a (i + 1)) R5 (B 0)) (ws' := wd_O O a B8 J) (rv := none) C hY_X2_find hV_X2_find lk_X6_239 (m_X2_find _ O (fun i => a (i + 26)) (fun i => a (i + 1)) (B 12) (B 0) _ e6) [26, 27, 1, 2, 3, 4, 5, 6] 26 rfl rfl rfl rfl rfl (by subst e9; rfl) (fun _ h => h) ⟨rfl, rfl⟩ ⟨Nat.zero_le _, Nat.zero_le _⟩ ⟨Nat.le_of_ble_eq_true rfl, Nat.le_of_ble_eq_true rfl⟩ rfl (Nat.le_of_ble_eq_true rfl) rfl rfl dX6_ring_19 ?_
    refine ww_iload_n (pc := 22) (i := 1) C 1 dX6_ring_22 rfl rfl ?_
    by_cases c10 : x1 = 0
    · have hf := oa_ifp c10 hf
      refine ww_look (pc := 23) (tgt := 48) C dX6_ring_23 (by decide) (by rw [c10] <;> rfl) (by decide) ?_
      refine ww_aload_n (pc := 48) (i := 0) C 0 dX6_ring_48 rfl rfl ?_
      refine ww_get (pc := 49) C fl_X6_50 0 rfl rfl dX6_ring_49 ?_
      refine ww_get (pc := 52) C fl_X6_242 26 rfl rfl dX6_ring_52 ?_
      obtain rfl := Option.some.inj hf
      exact ww_iret (pc := 55) C rfl dX6_ring_55
    have hf := oa_ifn c10 hf
    by_cases c11 : x1 = 1
    · have hf := oa_ifp c11 hf
      refine ww_look (pc := 23) (tgt := 56) C dX6_ring_23 (by decide) (by rw [c11] <;> rfl) (by decide) ?_
      refine ww_aload_n (pc := 56) (i := 0) C 0 dX6_ring_56 rfl rfl ?_
      refine ww_get (pc := 57) C fl_X6_50 0 rfl rfl dX6_ring_57 ?_
      refine ww_get (pc := 60) C fl_X6_245 26 rfl rfl dX6_ring_60 ?_
      obtain rfl := Option.some.inj hf
      exact ww_iret (pc := 63) C rfl dX6_ring_63
    have hf := oa_ifn c11 hf
    refine ww_look (pc := 23) (off := 41) (tgt := 64) C dX6_ring_23 (by decide) (lo_0_1_25_33_41 c10 c11) (by decide) ?_
    refine ww_aload_n (pc := 64) (i := 0) C 0 dX6_ring_64 rfl rfl ?_
    refine ww_get (pc := 65) C fl_X6_50 0 rfl rfl dX6_ring_65 ?_
    refine ww_get (pc := 68) C fl_X6_248 26 rfl rfl dX6_ring_68 ?_
    obtain rfl := Option.some.inj hf
    exact ww_iret (pc := 71) C rfl dX6_ring_71
  · have hf := oa_ifp c4 hf
    refine ww_iconst (pc := 9) C dX6_ring_9 kc_m1 ?_
    obtain rfl := Option.some.inj hf
    exact ww_iret (pc := 10) C rfl dX6_ring_10
theorem dX6_rule_0 : decode cX6_rule 0 = .ok (.iload_n 1, 1) := by decide +kernel
theorem dX6_rule_1 : decode cX6_rule 1 = .ok (.iconst 0, 1) := by decide +kernel
theorem dX6_rule_2 : decode cX6_rule 2 = .ok (.iconst 2, 1) := by decide +kernel
theorem dX6_rule_3 : decode cX6_rule 3 = .ok (.invokestatic 96, 3) := by decide +kernel
theorem dX6_rule_6 : decode cX6_rule 6 = .ok (.ifCond .eq 15, 3) := by decide +kernel
theorem dX6_rule_9 : decode cX6_rule 9 = .ok (.aload_n 0, 1) := by decide +kernel
theorem dX6_rule_10 : decode cX6_rule 10 = .ok (.getfield 10, 3) := by decide +kernel
theorem dX6_rule_13 : decode cX6_rule 13 = .ok (.getfield 100, 3) := by decide +kernel
theorem dX6_rule_16 : decode cX6_rule 16 = .ok (.iload_n 1, 1) := by decide +kernel
theorem dX6_rule_17 : decode cX6_rule 17 = .ok (.iaload, 1) := by decide +kernel
theorem dX6_rule_18 : decode cX6_rule 18 = .ok (.goto 4, 3) := by decide +kernel
theorem dX6_rule_21 : decode cX6_rule 21 = .ok (.iconst (-1), 1) := by decide +kernel
theorem dX6_rule_22 : decode cX6_rule 22 = .ok (.ireturn, 1) := by decide +kernel
abbrev rm_X6_rule : Room := { frames := 1, cells := 0, slots := 0, locals := 22 }
theorem m_X6_rule (l : Launch) (O : oa_O) (a : Nat → Nat) (B : oa_I3) (J : oa_J2) (x1 : Int32) (res : Int32) (hf : f_X6_rule B J x1 = some res) : oa_M l yX6_rule cX6_rule 2 (some .int) rm_X6_rule O [.ref (a 0), .int x1] (wd_O O a B J) (some (.int res)) (fun W1 => W1 = wd_O O a B J) := by
  refine oa_Mof (by decide) (Nat.le_of_ble_eq_true rfl) (fun G A hl C => ?_)
  subst hl
  have C : oa_C G cX6_rule 2 RX6 (some .int) rm_X6_rule O A := C
  have hf : f_X6_rule B J x1 = some res := hf
  delta f_X6_rule at hf
  show ww G 2 O A (oa_Q G O A (0, 0) (some (.int res)) (fun W1 => W1 = wd_O O a B J)) (0, 0) 0 [(0, .ref (a 0)), (1, .int x1)] [] (wd_O O a B J)
  refine ww_iload_n (pc := 0) (i := 1) C 1 dX6_rule_0 rfl rfl ?_
  refine ww_iconst (pc := 1) C dX6_rule_1 kc_0 ?_
  refine ww_iconst (pc := 2) C dX6_rule_2 kc_2 ?_
  obtain ⟨y1, e2, hf⟩ := oa_bind hf
  refine ww_callS (pc := 3) (As := [.int x1, .int 0, .int 2]) (rest := []) (wd := []) (ws' := wd_O O a B J) (rv := (some (.int y1))) C hY_X6_within hS_X6_within lk_X6_96 (m_X6_within _ O  x1 0 2 _ e2) [] rfl rfl rfl (oa_putS _ _ _ rfl) (fun _ h => h) ⟨rfl, rfl⟩ ⟨Nat.zero_le _, Nat.zero_le _⟩ ⟨Nat.le_of_ble_eq_true rfl, Nat.le_of_ble_eq_true rfl⟩ rfl (Nat.le_of_ble_eq_true rfl) rfl rfl dX6_rule_3 ?_
  refine ww_if_eq (pc := 6) (tgt := 21) C dX6_rule_6 (by decide) (fun c4 => ?_) (fun c4 => ?_)
  · have hf := oa_ifp c4 hf
    refine ww_iconst (pc := 21) C dX6_rule_21 kc_m1 ?_
    obtain rfl := Option.some.inj hf
    exact ww_iret (pc := 22) C rfl dX6_rule_22
  · have hf := oa_ifn c4 hf
    refine ww_aload_n (pc := 9) (i := 0) C 0 dX6_rule_9 rfl rfl ?_
    refine ww_get (pc := 10) C fl_X6_10 0 rfl rfl dX6_rule_10 ?_
    refine ww_get (pc := 13) C fl_X6_100 1 rfl rfl dX6_rule_13 ?_
    refine ww_iload_n (pc := 16) (i := 1) C 1 dX6_rule_16 rfl rfl ?_
    obtain ⟨y5, e6, hf⟩ := oa_bind hf
    refine ww_iald (pc := 17) C 2 rfl e6 dX6_rule_17 ?_
    refine ww_goto (pc := 18) (tgt := 22) C dX6_rule_18 (by decide) ?_
    obtain rfl := Option.some.inj hf
    exact ww_iret (pc := 22) C rfl dX6_rule_22
theorem dX6_run_0 : decode cX6_run 0 = .ok (.iload_n 2, 1) := by decide +kernel
theorem dX6_run_1 : decode cX6_run 1 = .ok (.bipush 10, 2) := by decide +kernel
theorem dX6_run_3 : decode cX6_run 3 = .ok (.bipush 15, 2) := by decide +kernel
theorem dX6_run_5 : decode cX6_run 5 = .ok (.invokestatic 96, 3) := by decide +kernel
theorem dX6_run_8 : decode cX6_run 8 = .ok (.ifCond .eq 21, 3) := by decide +kernel
theorem dX6_run_11 : decode cX6_run 11 = .ok (.aload_n 0, 1) := by decide +kernel
theorem dX6_run_12 : decode cX6_run 12 = .ok (.getfield 10, 3) := by decide +kernel
theorem dX6_run_15 : decode cX6_run 15 = .ok (.iload_n 2, 1) := by decide +kernel
theorem dX6_run_16 : decode cX6_run 16 = .ok (.bipush 10, 2) := by decide +kernel
theorem dX6_run_18 : decode cX6_run 18 = .ok (.isub, 1) := by decide +kernel
theorem dX6_run_19 : decode cX6_run 19 = .ok (.invokevirtual 104, 3) := by decide +kernel
theorem dX6_run_22 : decode cX6_run 22 = .ok (.ifCond .eq 7, 3) := by decide +kernel
theorem dX6_run_25 : decode cX6_run 25 = .ok (.iconst 1, 1) := by decide +kernel
theorem dX6_run_26 : decode cX6_run 26 = .ok (.goto 4, 3) := by decide +kernel
theorem dX6_run_29 : decode cX6_run 29 = .ok (.iconst 0, 1) := by decide +kernel
theorem dX6_run_30 : decode cX6_run 30 = .ok (.istore_n 3, 1) := by decide +kernel
theorem dX6_run_31 : decode cX6_run 31 = .ok (.iload_n 1, 1) := by decide +kernel
theorem dX6_run_32 : decode cX6_run 32 = .ok (.iconst 0, 1) := by decide +kernel
theorem dX6_run_33 : decode cX6_run 33 = .ok (.bipush 99, 2) := by decide +kernel
theorem dX6_run_35 : decode cX6_run 35 = .ok (.invokestatic 96, 3) := by decide +kernel
theorem dX6_run_38 : decode cX6_run 38 = .ok (.ifCond .eq 16, 3) := by decide +kernel
theorem dX6_run_41 : decode cX6_run 41 = .ok (.iload_n 2, 1) := by decide +kernel
theorem dX6_run_42 : decode cX6_run 42 = .ok (.iconst 0, 1) := by decide +kernel
theorem dX6_run_43 : decode cX6_run 43 = .ok (.iconst 3, 1) := by decide +kernel
theorem dX6_run_44 : decode cX6_run 44 = .ok (.invokestatic 96, 3) := by decide +kernel
theorem dX6_run_47 : decode cX6_run 47 = .ok (.ifCond .ne 10, 3) := by decide +kernel
theorem dX6_run_50 : decode cX6_run 50 = .ok (.iload_n 3, 1) := by decide +kernel
theorem dX6_run_51 : decode cX6_run 51 = .ok (.ifCond .ne 6, 3) := by decide +kernel
theorem dX6_run_54 : decode cX6_run 54 = .ok (.ldc 144, 2) := by decide +kernel
theorem dX6_run_56 : decode cX6_run 56 = .ok (.ireturn, 1) := by decide +kernel
theorem dX6_run_57 : decode cX6_run 57 = .ok (.aload_n 0, 1) := by decide +kernel
theorem dX6_run_58 : decode cX6_run 58 = .ok (.getfield 16, 3) := by decide +kernel
theorem dX6_run_61 : decode cX6_run 61 = .ok (.aload_n 0, 1) := by decide +kernel
theorem dX6_run_62 : decode cX6_run 62 = .ok (.getfield 10, 3) := by decide +kernel
theorem dX6_run_65 : decode cX6_run 65 = .ok (.invokevirtual 89, 3) := by decide +kernel
theorem dX6_run_68 : decode cX6_run 68 = .ok (.aload_n 0, 1) := by decide +kernel
theorem dX6_run_69 : decode cX6_run 69 = .ok (.getfield 16, 3) := by decide +kernel
theorem dX6_run_72 : decode cX6_run 72 = .ok (.iload_n 1, 1) := by decide +kernel
theorem dX6_run_73 : decode cX6_run 73 = .ok (.invokevirtual 176, 3) := by decide +kernel
theorem dX6_run_76 : decode cX6_run 76 = .ok (.istore 4, 2) := by decide +kernel
theorem dX6_run_78 : decode cX6_run 78 = .ok (.iload_n 2, 1) := by decide +kernel
theorem dX6_run_79 : decode cX6_run 79 = .ok (.tableswitch 64 0 3 #[29, 32, 48, 56], 29) := by decide +kernel
theorem dX6_run_108 : decode cX6_run 108 = .ok (.iload 4, 2) := by decide +kernel
theorem dX6_run_110 : decode cX6_run 110 = .ok (.ireturn, 1) := by decide +kernel
theorem dX6_run_111 : decode cX6_run 111 = .ok (.aload_n 0, 1) := by decide +kernel
theorem dX6_run_112 : decode cX6_run 112 = .ok (.getfield 16, 3) := by decide +kernel
theorem dX6_run_115 : decode cX6_run 115 = .ok (.getfield 185, 3) := by decide +kernel
theorem dX6_run_118 : decode cX6_run 118 = .ok (.aload_n 0, 1) := by decide +kernel
theorem dX6_run_119 : decode cX6_run 119 = .ok (.getfield 10, 3) := by decide +kernel
theorem dX6_run_122 : decode cX6_run 122 = .ok (.getfield 185, 3) := by decide +kernel
theorem dX6_run_125 : decode cX6_run 125 = .ok (.isub, 1) := by decide +kernel
theorem dX6_run_126 : decode cX6_run 126 = .ok (.ireturn, 1) := by decide +kernel
theorem dX6_run_127 : decode cX6_run 127 = .ok (.aload_n 0, 1) := by decide +kernel
theorem dX6_run_128 : decode cX6_run 128 = .ok (.getfield 16, 3) := by decide +kernel
theorem dX6_run_131 : decode cX6_run 131 = .ok (.getfield 199, 3) := by decide +kernel
theorem dX6_run_134 : decode cX6_run 134 = .ok (.ireturn, 1) := by decide +kernel
theorem dX6_run_135 : decode cX6_run 135 = .ok (.aload_n 0, 1) := by decide +kernel
theorem dX6_run_136 : decode cX6_run 136 = .ok (.getfield 16, 3) := by decide +kernel
theorem dX6_run_139 : decode cX6_run 139 = .ok (.invokevirtual 188, 3) := by decide +kernel
theorem dX6_run_142 : decode cX6_run 142 = .ok (.ireturn, 1) := by decide +kernel
theorem dX6_run_143 : decode cX6_run 143 = .ok (.aload_n 0, 1) := by decide +kernel
theorem dX6_run_144 : decode cX6_run 144 = .ok (.getfield 16, 3) := by decide +kernel
theorem dX6_run_147 : decode cX6_run 147 = .ok (.getfield 141, 3) := by decide +kernel
theorem dX6_run_150 : decode cX6_run 150 = .ok (.iload_n 2, 1) := by decide +kernel
theorem dX6_run_151 : decode cX6_run 151 = .ok (.bipush 10, 2) := by decide +kernel
theorem dX6_run_153 : decode cX6_run 153 = .ok (.isub, 1) := by decide +kernel
theorem dX6_run_154 : decode cX6_run 154 = .ok (.iaload, 1) := by decide +kernel
theorem dX6_run_155 : decode cX6_run 155 = .ok (.aload_n 0, 1) := by decide +kernel
theorem dX6_run_156 : decode cX6_run 156 = .ok (.getfield 10, 3) := by decide +kernel
theorem dX6_run_159 : decode cX6_run 159 = .ok (.getfield 141, 3) := by decide +kernel
theorem dX6_run_162 : decode cX6_run 162 = .ok (.iload_n 2, 1) := by decide +kernel
theorem dX6_run_163 : decode cX6_run 163 = .ok (.bipush 10, 2) := by decide +kernel
theorem dX6_run_165 : decode cX6_run 165 = .ok (.isub, 1) := by decide +kernel
theorem dX6_run_166 : decode cX6_run 166 = .ok (.iaload, 1) := by decide +kernel
theorem dX6_run_167 : decode cX6_run 167 = .ok (.isub, 1) := by decide +kernel
theorem dX6_run_168 : decode cX6_run 168 = .ok (.ireturn, 1) := by decide +kernel
abbrev rm_X6_run : Room := { frames := 7, cells := 0, slots := 0, locals := 160 }
theorem t_b_X6_run_57 {G : oa_G} {O : oa_O} {A : Nat → Prop} {a : Nat → Nat} {res : Int32 × oa_I3} (C : oa_C G cX6_run 5 RX6 (some .int) rm_X6_run O A) (J : oa_J2) (x1 : Int32) (x2 : Int32)  (B : oa_I3)    (hf : b_X6_run_57 J x1 x2 B = some res) : ww G 5 O A (oa_Q G O A (0, 0) (some (.int res.1)) (fun W1 => W1 = wd_O O a res.2 J)) (0, 0) 57 [(0, .ref (a 0)), (1, .int x1), (2, .int x2)] [] (wd_O O a B J) := by
  delta b_X6_run_57 at hf
  refine ww_aload_n (pc := 57) (i := 0) C 0 dX6_run_57 rfl rfl ?_
  refine ww_get (pc := 58) C fl_X6_16 0 rfl rfl dX6_run_58 ?_
  refine ww_aload_n (pc := 61) (i := 0) C 0 dX6_run_61 rfl rfl ?_
  refine ww_get (pc := 62) C fl_X6_10 0 rfl rfl dX6_run_62 ?_
  obtain ⟨V18, e19, hf⟩ := oa_bind hf
  obtain ⟨B21, e22, hf⟩ := oa_letE hf
  refine ww_callV (pc := 65) (As := [.ref (a 1)]) (rest := []) (wd := wd_VV O (fun i => a (i + 7)) (fun i => a (i + 1)) V18 (B 0)) (ws' := wd_O O a B21 J) (rv := none) C hY_X5_copyOf hV_X5_copyOf lk_X6_89 (m_X5_copyOf _ O (fun i => a (i + 7)) (fun i => a (i + 1)) (B 1) (B 0) _ e19) [7, 8, 9, 10, 11, 12, 1, 2, 3, 4, 5, 6] 7 rfl rfl rfl rfl rfl (by subst e22; rfl) (fun _ h => h) ⟨rfl, rfl⟩ ⟨Nat.zero_le _, Nat.zero_le _⟩ ⟨Nat.le_of_ble_eq_true rfl, Nat.le_of_ble_eq_true rfl⟩ rfl (Nat.le_of_ble_eq_true rfl) rfl rfl dX6_run_65 ?_
  refine ww_aload_n (pc := 68) (i := 0) C 0 dX6_run_68 rfl rfl ?_
  refine ww_get (pc := 69) C fl_X6_16 0 rfl rfl dX6_run_69 ?_
  refine ww_iload_n (pc := 72) (i := 1) C 1 dX6_run_72 rfl rfl ?_
  obtain ⟨y23, V24, e25, hf⟩ := oa_bind2 hf
  obtain ⟨B27, e28, hf⟩ := oa_letE hf
  refine ww_callV (pc := 73) (As := [.int x1]) (rest := []) (wd := wd_V O (fun i => a (i + 7)) V24) (ws' := wd_O O a B27 J) (rv := (some (.int y23))) C hY_X5_passWeeks hV_X5_passWeeks lk_X6_176 (m_X5_passWeeks _ O (fun i => a (i + 7)) (B21 1) x1 _ e25) [7, 8, 9, 10, 11, 12] 7 rfl rfl rfl rfl rfl (by subst e28; rfl) (fun _ h => h) ⟨rfl, rfl⟩ ⟨Nat.zero_le _, Nat.zero_le _⟩ ⟨Nat.le_of_ble_eq_true rfl, Nat.le_of_ble_eq_true rfl⟩ rfl (Nat.le_of_ble_eq_true rfl) rfl rfl dX6_run_73 ?_
  refine ww_istore (pc := 76) (L' := [(0, .ref (a 0)), (1, .int x1), (2, .int x2), (4, .int y23)]) C [1, 2, 3, 0] dX6_run_76 (Nat.le_of_ble_eq_true rfl) rfl ?_
  refine ww_iload_n (pc := 78) (i := 2) C 2 dX6_run_78 rfl rfl ?_
  by_cases c29 : x2 = 0
  · have hf := oa_ifp c29 hf
    refine ww_tabI (pc := 79) (tgt := 108) C dX6_run_79 (by rw [c29] <;> decide) (by rw [c29] <;> decide) (by rw [c29] <;> rfl) (by decide) ?_
    refine ww_iload (pc := 108) (i := 4) C 3 dX6_run_108 rfl ?_
    obtain rfl := Option.some.inj hf
    exact ww_iret (pc := 110) C rfl dX6_run_110
  have hf := oa_ifn c29 hf
  by_cases c30 : x2 = 1
  · have hf := oa_ifp c30 hf
    refine ww_tabI (pc := 79) (tgt := 111) C dX6_run_79 (by rw [c30] <;> decide) (by rw [c30] <;> decide) (by rw [c30] <;> rfl) (by decide) ?_
    refine ww_aload_n (pc := 111) (i := 0) C 0 dX6_run_111 rfl rfl ?_
    refine ww_get (pc := 112) C fl_X6_16 0 rfl rfl dX6_run_112 ?_
    refine ww_get (pc := 115) C fl_X6_185 7 rfl rfl dX6_run_115 ?_
    refine ww_aload_n (pc := 118) (i := 0) C 0 dX6_run_118 rfl rfl ?_
    refine ww_get (pc := 119) C fl_X6_10 0 rfl rfl dX6_run_119 ?_
    refine ww_get (pc := 122) C fl_X6_185 1 rfl rfl dX6_run_122 ?_
    refine ww_isub (pc := 125) C dX6_run_125 ?_
    obtain rfl := Option.some.inj hf
    exact ww_iret (pc := 126) C rfl dX6_run_126
  have hf := oa_ifn c30 hf
  by_cases c31 : x2 = 2
  · have hf := oa_ifp c31 hf
    refine ww_tabI (pc := 79) (tgt := 127) C dX6_run_79 (by rw [c31] <;> decide) (by rw [c31] <;> decide) (by rw [c31] <;> rfl) (by decide) ?_
    refine ww_aload_n (pc := 127) (i := 0) C 0 dX6_run_127 rfl rfl ?_
    refine ww_get (pc := 128) C fl_X6_16 0 rfl rfl dX6_run_128 ?_
    refine ww_get (pc := 131) C fl_X6_199 7 rfl rfl dX6_run_131 ?_
    obtain rfl := Option.some.inj hf
    exact ww_iret (pc := 134) C rfl dX6_run_134
  have hf := oa_ifn c31 hf
  by_cases c32 : x2 = 3
  · have hf := oa_ifp c32 hf
    refine ww_tabI (pc := 79) (tgt := 135) C dX6_run_79 (by rw [c32] <;> decide) (by rw [c32] <;> decide) (by rw [c32] <;> rfl) (by decide) ?_
    refine ww_aload_n (pc := 135) (i := 0) C 0 dX6_run_135 rfl rfl ?_
    refine ww_get (pc := 136) C fl_X6_16 0 rfl rfl dX6_run_136 ?_
    obtain ⟨y33, e34, hf⟩ := oa_bind hf
    refine ww_callV (pc := 139) (As := []) (rest := []) (wd := wd_V O (fun i => a (i + 7)) (B27 1)) (ws' := wd_O O a B27 J) (rv := (some (.int y33))) C hY_X5_free hV_X5_free lk_X6_188 (m_X5_free _ O (fun i => a (i + 7)) (B27 1) _ e34) [7, 8, 9, 10, 11, 12] 7 rfl rfl rfl rfl rfl (oa_putS _ _ _ rfl) (fun _ h => h) ⟨rfl, rfl⟩ ⟨Nat.zero_le _, Nat.zero_le _⟩ ⟨Nat.le_of_ble_eq_true rfl, Nat.le_of_ble_eq_true rfl⟩ rfl (Nat.le_of_ble_eq_true rfl) rfl rfl dX6_run_139 ?_
    obtain rfl := Option.some.inj hf
    exact ww_iret (pc := 142) C rfl dX6_run_142
  have hf := oa_ifn c32 hf
  refine ww_tabO (pc := 79) (tgt := 143) C dX6_run_79 (to_0_3 c29 c30 c31 c32) (by decide) ?_
  refine ww_aload_n (pc := 143) (i := 0) C 0 dX6_run_143 rfl rfl ?_
  refine ww_get (pc := 144) C fl_X6_16 0 rfl rfl dX6_run_144 ?_
  refine ww_get (pc := 147) C fl_X6_141 7 rfl rfl dX6_run_147 ?_
  refine ww_iload_n (pc := 150) (i := 2) C 2 dX6_run_150 rfl rfl ?_
  refine ww_bipush (pc := 151) C dX6_run_151 kb_10 ?_
  refine ww_isub (pc := 153) C dX6_run_153 ?_
  obtain ⟨y36, e37, hf⟩ := oa_bind hf
  refine ww_iald (pc := 154) C 12 rfl e37 dX6_run_154 ?_
  refine ww_aload_n (pc := 155) (i := 0) C 0 dX6_run_155 rfl rfl ?_
  refine ww_get (pc := 156) C fl_X6_10 0 rfl rfl dX6_run_156 ?_
  refine ww_get (pc := 159) C fl_X6_141 1 rfl rfl dX6_run_159 ?_
  refine ww_iload_n (pc := 162) (i := 2) C 2 dX6_run_162 rfl rfl ?_
  refine ww_bipush (pc := 163) C dX6_run_163 kb_10 ?_
  refine ww_isub (pc := 165) C dX6_run_165 ?_
  obtain ⟨y38, e39, hf⟩ := oa_bind hf
  refine ww_iald (pc := 166) C 6 rfl e39 dX6_run_166 ?_
  refine ww_isub (pc := 167) C dX6_run_167 ?_
  obtain rfl := Option.some.inj hf
  exact ww_iret (pc := 168) C rfl dX6_run_168
theorem t_b_X6_run_30 {G : oa_G} {O : oa_O} {A : Nat → Prop} {a : Nat → Nat} {res : Int32 × oa_I3} (C : oa_C G cX6_run 5 RX6 (some .int) rm_X6_run O A) (J : oa_J2) (x1 : Int32) (x2 : Int32)  (B : oa_I3) (s0 : Int32)    (hf : b_X6_run_30 J x1 x2 B s0 = some res) : ww G 5 O A (oa_Q G O A (0, 0) (some (.int res.1)) (fun W1 => W1 = wd_O O a res.2 J)) (0, 0) 30 [(0, .ref (a 0)), (1, .int x1), (2, .int x2)] [.int s0] (wd_O O a B J) := by
  delta b_X6_run_30 at hf
  refine ww_istore_n (pc := 30) (L' := [(0, .ref (a 0)), (1, .int x1), (2, .int x2), (3, .int s0)]) C [1, 2, 3, 0] dX6_run_30 rfl (Nat.le_of_ble_eq_true rfl) rfl ?_
  refine ww_iload_n (pc := 31) (i := 1) C 1 dX6_run_31 rfl rfl ?_
  refine ww_iconst (pc := 32) C dX6_run_32 kc_0 ?_
  refine ww_bipush (pc := 33) C dX6_run_33 kb_99 ?_
  obtain ⟨y9, e10, hf⟩ := oa_bind hf
  refine ww_callS (pc := 35) (As := [.int x1, .int 0, .int 99]) (rest := []) (wd := []) (ws' := wd_O O a B J) (rv := (some (.int y9))) C hY_X6_within hS_X6_within lk_X6_96 (m_X6_within _ O  x1 0 99 _ e10) [] rfl rfl rfl (oa_putS _ _ _ rfl) (fun _ h => h) ⟨rfl, rfl⟩ ⟨Nat.zero_le _, Nat.zero_le _⟩ ⟨Nat.le_of_ble_eq_true rfl, Nat.le_of_ble_eq_true rfl⟩ rfl (Nat.le_of_ble_eq_true rfl) rfl rfl dX6_run_35 ?_
  refine ww_if_eq (pc := 38) (tgt := 54) C dX6_run_38 (by decide) (fun c12 => ?_) (fun c12 => ?_)
  · have hf := oa_ifp c12 hf
    refine ww_ldc (pc := 54) C cw_X6_144 dX6_run_54 ?_
    obtain rfl := Option.some.inj hf
    exact ww_iret (pc := 56) C rfl dX6_run_56
  · have hf := oa_ifn c12 hf
    refine ww_iload_n (pc := 41) (i := 2) C 2 dX6_run_41 rfl rfl ?_
    refine ww_iconst (pc := 42) C dX6_run_42 kc_0 ?_
    refine ww_iconst (pc := 43) C dX6_run_43 kc_3 ?_
    obtain ⟨y13, e14, hf⟩ := oa_bind hf
    refine ww_callS (pc := 44) (As := [.int x2, .int 0, .int 3]) (rest := []) (wd := []) (ws' := wd_O O a B J) (rv := (some (.int y13))) C hY_X6_within hS_X6_within lk_X6_96 (m_X6_within _ O  x2 0 3 _ e14) [] rfl rfl rfl (oa_putS _ _ _ rfl) (fun _ h => h) ⟨rfl, rfl⟩ ⟨Nat.zero_le _, Nat.zero_le _⟩ ⟨Nat.le_of_ble_eq_true rfl, Nat.le_of_ble_eq_true rfl⟩ rfl (Nat.le_of_ble_eq_true rfl) rfl rfl dX6_run_44 ?_
    refine ww_if_ne (pc := 47) (tgt := 57) C dX6_run_47 (by decide) (fun c16 => ?_) (fun c16 => ?_)
    · have hf := oa_ifn c16 hf
      refine ww_sub C [0, 1, 2] rfl ?_
      exact t_b_X6_run_57 C J x1 x2 B   hf
    · have hf := oa_ifp c16 hf
      refine ww_iload_n (pc := 50) (i := 3) C 3 dX6_run_50 rfl rfl ?_
      refine ww_if_ne (pc := 51) (tgt := 57) C dX6_run_51 (by decide) (fun c17 => ?_) (fun c17 => ?_)
      · have hf := oa_ifn c17 hf
        refine ww_sub C [0, 1, 2] rfl ?_
        exact t_b_X6_run_57 C J x1 x2 B   hf
      · have hf := oa_ifp c17 hf
        refine ww_ldc (pc := 54) C cw_X6_144 dX6_run_54 ?_
        obtain rfl := Option.some.inj hf
        exact ww_iret (pc := 56) C rfl dX6_run_56
theorem m_X6_run (l : Launch) (O : oa_O) (a : Nat → Nat) (B : oa_I3) (J : oa_J2) (x1 : Int32) (x2 : Int32) (res : Int32 × oa_I3) (hf : f_X6_run B J x1 x2 = some res) : oa_M l yX6_run cX6_run 5 (some .int) rm_X6_run O [.ref (a 0), .int x1, .int x2] (wd_O O a B J) (some (.int res.1)) (fun W1 => W1 = wd_O O a res.2 J) := by
  refine oa_Mof (by decide) (Nat.le_of_ble_eq_true rfl) (fun G A hl C => ?_)
  subst hl
  have C : oa_C G cX6_run 5 RX6 (some .int) rm_X6_run O A := C
  have hf : f_X6_run B J x1 x2 = some res := hf
  delta f_X6_run at hf
  show ww G 5 O A (oa_Q G O A (0, 0) (some (.int res.1)) (fun W1 => W1 = wd_O O a res.2 J)) (0, 0) 0 [(0, .ref (a 0)), (1, .int x1), (2, .int x2)] [] (wd_O O a B J)
  refine ww_iload_n (pc := 0) (i := 2) C 2 dX6_run_0 rfl rfl ?_
  refine ww_bipush (pc := 1) C dX6_run_1 kb_10 ?_
  refine ww_bipush (pc := 3) C dX6_run_3 kb_15 ?_
  obtain ⟨y1, e2, hf⟩ := oa_bind hf
  refine ww_callS (pc := 5) (As := [.int x2, .int 10, .int 15]) (rest := []) (wd := []) (ws' := wd_O O a B J) (rv := (some (.int y1))) C hY_X6_within hS_X6_within lk_X6_96 (m_X6_within _ O  x2 10 15 _ e2) [] rfl rfl rfl (oa_putS _ _ _ rfl) (fun _ h => h) ⟨rfl, rfl⟩ ⟨Nat.zero_le _, Nat.zero_le _⟩ ⟨Nat.le_of_ble_eq_true rfl, Nat.le_of_ble_eq_true rfl⟩ rfl (Nat.le_of_ble_eq_true rfl) rfl rfl dX6_run_5 ?_
  refine ww_if_eq (pc := 8) (tgt := 29) C dX6_run_8 (by decide) (fun c4 => ?_) (fun c4 => ?_)
  · have hf := oa_ifp c4 hf
    refine ww_iconst (pc := 29) C dX6_run_29 kc_0 ?_
    exact t_b_X6_run_30 C J x1 x2 B 0   hf
  · have hf := oa_ifn c4 hf
    refine ww_aload_n (pc := 11) (i := 0) C 0 dX6_run_11 rfl rfl ?_
    refine ww_get (pc := 12) C fl_X6_10 0 rfl rfl dX6_run_12 ?_
    refine ww_iload_n (pc := 15) (i := 2) C 2 dX6_run_15 rfl rfl ?_
    refine ww_bipush (pc := 16) C dX6_run_16 kb_10 ?_
    refine ww_isub (pc := 18) C dX6_run_18 ?_
    obtain ⟨y5, e6, hf⟩ := oa_bind hf
    refine ww_callV (pc := 19) (As := [.int (x2 - 10)]) (rest := []) (wd := wd_V O (fun i => a (i + 1)) (B 0)) (ws' := wd_O O a B J) (rv := (some (.int y5))) C hY_X5_has hV_X5_has lk_X6_104 (m_X5_has _ O (fun i => a (i + 1)) (B 0) (x2 - 10) _ e6) [1, 2, 3, 4, 5, 6] 1 rfl rfl rfl rfl rfl (oa_putS _ _ _ rfl) (fun _ h => h) ⟨rfl, rfl⟩ ⟨Nat.zero_le _, Nat.zero_le _⟩ ⟨Nat.le_of_ble_eq_true rfl, Nat.le_of_ble_eq_true rfl⟩ rfl (Nat.le_of_ble_eq_true rfl) rfl rfl dX6_run_19 ?_
    refine ww_if_eq (pc := 22) (tgt := 29) C dX6_run_22 (by decide) (fun c8 => ?_) (fun c8 => ?_)
    · have hf := oa_ifp c8 hf
      refine ww_iconst (pc := 29) C dX6_run_29 kc_0 ?_
      exact t_b_X6_run_30 C J x1 x2 B 0   hf
    · have hf := oa_ifn c8 hf
      refine ww_iconst (pc := 25) C dX6_run_25 kc_1 ?_
      refine ww_goto (pc := 26) (tgt := 30) C dX6_run_26 (by decide) ?_
      exact t_b_X6_run_30 C J x1 x2 B 1   hf
theorem dX6_set_0 : decode cX6_set 0 = .ok (.aload_n 0, 1) := by decide +kernel
theorem dX6_set_1 : decode cX6_set 1 = .ok (.getfield 10, 3) := by decide +kernel
theorem dX6_set_4 : decode cX6_set 4 = .ok (.iload_n 1, 1) := by decide +kernel
theorem dX6_set_5 : decode cX6_set 5 = .ok (.invokevirtual 104, 3) := by decide +kernel
theorem dX6_set_8 : decode cX6_set 8 = .ok (.ifCond .eq 30, 3) := by decide +kernel
theorem dX6_set_11 : decode cX6_set 11 = .ok (.iload_n 2, 1) := by decide +kernel
theorem dX6_set_12 : decode cX6_set 12 = .ok (.iconst 0, 1) := by decide +kernel
theorem dX6_set_13 : decode cX6_set 13 = .ok (.bipush 6, 2) := by decide +kernel
theorem dX6_set_15 : decode cX6_set 15 = .ok (.invokestatic 96, 3) := by decide +kernel
theorem dX6_set_18 : decode cX6_set 18 = .ok (.ifCond .eq 20, 3) := by decide +kernel
theorem dX6_set_21 : decode cX6_set 21 = .ok (.iload_n 3, 1) := by decide +kernel
theorem dX6_set_22 : decode cX6_set 22 = .ok (.getstatic 121, 3) := by decide +kernel
theorem dX6_set_25 : decode cX6_set 25 = .ok (.iload_n 2, 1) := by decide +kernel
theorem dX6_set_26 : decode cX6_set 26 = .ok (.iaload, 1) := by decide +kernel
theorem dX6_set_27 : decode cX6_set 27 = .ok (.getstatic 124, 3) := by decide +kernel
theorem dX6_set_30 : decode cX6_set 30 = .ok (.iload_n 2, 1) := by decide +kernel
theorem dX6_set_31 : decode cX6_set 31 = .ok (.iaload, 1) := by decide +kernel
theorem dX6_set_32 : decode cX6_set 32 = .ok (.invokestatic 96, 3) := by decide +kernel
theorem dX6_set_35 : decode cX6_set 35 = .ok (.ifCond .ne 5, 3) := by decide +kernel
theorem dX6_set_38 : decode cX6_set 38 = .ok (.iconst (-1), 1) := by decide +kernel
theorem dX6_set_39 : decode cX6_set 39 = .ok (.ireturn, 1) := by decide +kernel
theorem dX6_set_40 : decode cX6_set 40 = .ok (.aload_n 0, 1) := by decide +kernel
theorem dX6_set_41 : decode cX6_set 41 = .ok (.getfield 10, 3) := by decide +kernel
theorem dX6_set_44 : decode cX6_set 44 = .ok (.iload_n 2, 1) := by decide +kernel
theorem dX6_set_45 : decode cX6_set 45 = .ok (.iload_n 1, 1) := by decide +kernel
theorem dX6_set_46 : decode cX6_set 46 = .ok (.invokevirtual 117, 3) := by decide +kernel
theorem dX6_set_49 : decode cX6_set 49 = .ok (.istore 4, 2) := by decide +kernel
theorem dX6_set_51 : decode cX6_set 51 = .ok (.aload_n 0, 1) := by decide +kernel
theorem dX6_set_52 : decode cX6_set 52 = .ok (.getfield 10, 3) := by decide +kernel
theorem dX6_set_55 : decode cX6_set 55 = .ok (.iload_n 2, 1) := by decide +kernel
theorem dX6_set_56 : decode cX6_set 56 = .ok (.iload_n 1, 1) := by decide +kernel
theorem dX6_set_57 : decode cX6_set 57 = .ok (.iload_n 3, 1) := by decide +kernel
theorem dX6_set_58 : decode cX6_set 58 = .ok (.invokevirtual 127, 3) := by decide +kernel
theorem dX6_set_61 : decode cX6_set 61 = .ok (.iload 4, 2) := by decide +kernel
theorem dX6_set_63 : decode cX6_set 63 = .ok (.ireturn, 1) := by decide +kernel
abbrev rm_X6_set : Room := { frames := 2, cells := 0, slots := 0, locals := 43 }
theorem m_X6_set (l : Launch) (O : oa_O) (a : Nat → Nat) (B : oa_I3) (J : oa_J2) (x1 : Int32) (x2 : Int32) (x3 : Int32) (res : Int32 × oa_I3) (hf : f_X6_set B J x1 x2 x3 = some res) : oa_M l yX6_set cX6_set 5 (some .int) rm_X6_set O [.ref (a 0), .int x1, .int x2, .int x3] (wd_O O a B J) (some (.int res.1)) (fun W1 => W1 = wd_O O a res.2 J) := by
  refine oa_Mof (by decide) (Nat.le_of_ble_eq_true rfl) (fun G A hl C => ?_)
  subst hl
  have C : oa_C G cX6_set 5 RX6 (some .int) rm_X6_set O A := C
  have hf : f_X6_set B J x1 x2 x3 = some res := hf
  delta f_X6_set at hf
  show ww G 5 O A (oa_Q G O A (0, 0) (some (.int res.1)) (fun W1 => W1 = wd_O O a res.2 J)) (0, 0) 0 [(0, .ref (a 0)), (1, .int x1), (2, .int x2), (3, .int x3)] [] (wd_O O a B J)
  refine ww_aload_n (pc := 0) (i := 0) C 0 dX6_set_0 rfl rfl ?_
  refine ww_get (pc := 1) C fl_X6_10 0 rfl rfl dX6_set_1 ?_
  refine ww_iload_n (pc := 4) (i := 1) C 1 dX6_set_4 rfl rfl ?_
  obtain ⟨y1, e2, hf⟩ := oa_bind hf
  refine ww_callV (pc := 5) (As := [.int x1]) (rest := []) (wd := wd_V O (fun i => a (i + 1)) (B 0)) (ws' := wd_O O a B J) (rv := (some (.int y1))) C hY_X5_has hV_X5_has lk_X6_104 (m_X5_has _ O (fun i => a (i + 1)) (B 0) x1 _ e2) [1, 2, 3, 4, 5, 6] 1 rfl rfl rfl rfl rfl (oa_putS _ _ _ rfl) (fun _ h => h) ⟨rfl, rfl⟩ ⟨Nat.zero_le _, Nat.zero_le _⟩ ⟨Nat.le_of_ble_eq_true rfl, Nat.le_of_ble_eq_true rfl⟩ rfl (Nat.le_of_ble_eq_true rfl) rfl rfl dX6_set_5 ?_
  refine ww_if_eq (pc := 8) (tgt := 38) C dX6_set_8 (by decide) (fun c4 => ?_) (fun c4 => ?_)
  · have hf := oa_ifp c4 hf
    refine ww_iconst (pc := 38) C dX6_set_38 kc_m1 ?_
    obtain rfl := Option.some.inj hf
    exact ww_iret (pc := 39) C rfl dX6_set_39
  · have hf := oa_ifn c4 hf
    refine ww_iload_n (pc := 11) (i := 2) C 2 dX6_set_11 rfl rfl ?_
    refine ww_iconst (pc := 12) C dX6_set_12 kc_0 ?_
    refine ww_bipush (pc := 13) C dX6_set_13 kb_6 ?_
    obtain ⟨y5, e6, hf⟩ := oa_bind hf
    refine ww_callS (pc := 15) (As := [.int x2, .int 0, .int 6]) (rest := []) (wd := []) (ws' := wd_O O a B J) (rv := (some (.int y5))) C hY_X6_within hS_X6_within lk_X6_96 (m_X6_within _ O  x2 0 6 _ e6) [] rfl rfl rfl (oa_putS _ _ _ rfl) (fun _ h => h) ⟨rfl, rfl⟩ ⟨Nat.zero_le _, Nat.zero_le _⟩ ⟨Nat.le_of_ble_eq_true rfl, Nat.le_of_ble_eq_true rfl⟩ rfl (Nat.le_of_ble_eq_true rfl) rfl rfl dX6_set_15 ?_
    refine ww_if_eq (pc := 18) (tgt := 38) C dX6_set_18 (by decide) (fun c8 => ?_) (fun c8 => ?_)
    · have hf := oa_ifp c8 hf
      refine ww_iconst (pc := 38) C dX6_set_38 kc_m1 ?_
      obtain rfl := Option.some.inj hf
      exact ww_iret (pc := 39) C rfl dX6_set_39
    · have hf := oa_ifn c8 hf
      refine ww_iload_n (pc := 21) (i := 3) C 3 dX6_set_21 rfl rfl ?_
      refine ww_gs (pc := 22) (k := 0) C (by decide) gl_X6_121 dX6_set_22 ?_
      refine ww_iload_n (pc := 25) (i := 2) C 2 dX6_set_25 rfl rfl ?_
      obtain ⟨y9, e10, hf⟩ := oa_bind hf
      refine ww_tld (pc := 26) (k := 0) C (by decide) e10 dX6_set_26 ?_
      refine ww_gs (pc := 27) (k := 1) C (by decide) gl_X6_124 dX6_set_27 ?_
      refine ww_iload_n (pc := 30) (i := 2) C 2 dX6_set_30 rfl rfl ?_
      obtain ⟨y11, e12, hf⟩ := oa_bind hf
      refine ww_tld (pc := 31) (k := 1) C (by decide) e12 dX6_set_31 ?_
      obtain ⟨y13, e14, hf⟩ := oa_bind hf
      refine ww_callS (pc := 32) (As := [.int x3, .int y9, .int y11]) (rest := []) (wd := []) (ws' := wd_O O a B J) (rv := (some (.int y13))) C hY_X6_within hS_X6_within lk_X6_96 (m_X6_within _ O  x3 y9 y11 _ e14) [] rfl rfl rfl (oa_putS _ _ _ rfl) (fun _ h => h) ⟨rfl, rfl⟩ ⟨Nat.zero_le _, Nat.zero_le _⟩ ⟨Nat.le_of_ble_eq_true rfl, Nat.le_of_ble_eq_true rfl⟩ rfl (Nat.le_of_ble_eq_true rfl) rfl rfl dX6_set_32 ?_
      refine ww_if_ne (pc := 35) (tgt := 40) C dX6_set_35 (by decide) (fun c16 => ?_) (fun c16 => ?_)
      · have hf := oa_ifn c16 hf
        refine ww_aload_n (pc := 40) (i := 0) C 0 dX6_set_40 rfl rfl ?_
        refine ww_get (pc := 41) C fl_X6_10 0 rfl rfl dX6_set_41 ?_
        refine ww_iload_n (pc := 44) (i := 2) C 2 dX6_set_44 rfl rfl ?_
        refine ww_iload_n (pc := 45) (i := 1) C 1 dX6_set_45 rfl rfl ?_
        obtain ⟨y17, e18, hf⟩ := oa_bind hf
        refine ww_callV (pc := 46) (As := [.int x2, .int x1]) (rest := []) (wd := wd_V O (fun i => a (i + 1)) (B 0)) (ws' := wd_O O a B J) (rv := (some (.int y17))) C hY_X5_trait hV_X5_trait lk_X6_117 (m_X5_trait _ O (fun i => a (i + 1)) (B 0) x2 x1 _ e18) [1, 2, 3, 4, 5, 6] 1 rfl rfl rfl rfl rfl (oa_putS _ _ _ rfl) (fun _ h => h) ⟨rfl, rfl⟩ ⟨Nat.zero_le _, Nat.zero_le _⟩ ⟨Nat.le_of_ble_eq_true rfl, Nat.le_of_ble_eq_true rfl⟩ rfl (Nat.le_of_ble_eq_true rfl) rfl rfl dX6_set_46 ?_
        refine ww_istore (pc := 49) (L' := [(0, .ref (a 0)), (1, .int x1), (2, .int x2), (3, .int x3), (4, .int y17)]) C [1, 2, 3, 4, 0] dX6_set_49 (Nat.le_of_ble_eq_true rfl) rfl ?_
        refine ww_aload_n (pc := 51) (i := 0) C 0 dX6_set_51 rfl rfl ?_
        refine ww_get (pc := 52) C fl_X6_10 0 rfl rfl dX6_set_52 ?_
        refine ww_iload_n (pc := 55) (i := 2) C 2 dX6_set_55 rfl rfl ?_
        refine ww_iload_n (pc := 56) (i := 1) C 1 dX6_set_56 rfl rfl ?_
        refine ww_iload_n (pc := 57) (i := 3) C 3 dX6_set_57 rfl rfl ?_
        obtain ⟨V20, e21, hf⟩ := oa_bind hf
        obtain ⟨B23, e24, hf⟩ := oa_letE hf
        refine ww_callV (pc := 58) (As := [.int x2, .int x1, .int x3]) (rest := []) (wd := wd_V O (fun i => a (i + 1)) V20) (ws' := wd_O O a B23 J) (rv := none) C hY_X5_putTrait hV_X5_putTrait lk_X6_127 (m_X5_putTrait _ O (fun i => a (i + 1)) (B 0) x2 x1 x3 _ e21) [1, 2, 3, 4, 5, 6] 1 rfl rfl rfl rfl rfl (by subst e24; rfl) (fun _ h => h) ⟨rfl, rfl⟩ ⟨Nat.zero_le _, Nat.zero_le _⟩ ⟨Nat.le_of_ble_eq_true rfl, Nat.le_of_ble_eq_true rfl⟩ rfl (Nat.le_of_ble_eq_true rfl) rfl rfl dX6_set_58 ?_
        refine ww_iload (pc := 61) (i := 4) C 4 dX6_set_61 rfl ?_
        obtain rfl := Option.some.inj hf
        exact ww_iret (pc := 63) C rfl dX6_set_63
      · have hf := oa_ifp c16 hf
        refine ww_iconst (pc := 38) C dX6_set_38 kc_m1 ?_
        obtain rfl := Option.some.inj hf
        exact ww_iret (pc := 39) C rfl dX6_set_39
theorem dX6_sheet_0 : decode cX6_sheet 0 = .ok (.iload_n 1, 1) := by decide +kernel
theorem dX6_sheet_1 : decode cX6_sheet 1 = .ok (.iconst 0, 1) := by decide +kernel
theorem dX6_sheet_2 : decode cX6_sheet 2 = .ok (.iconst 3, 1) := by decide +kernel
theorem dX6_sheet_3 : decode cX6_sheet 3 = .ok (.invokestatic 96, 3) := by decide +kernel
theorem dX6_sheet_6 : decode cX6_sheet 6 = .ok (.ifCond .eq 18, 3) := by decide +kernel
theorem dX6_sheet_9 : decode cX6_sheet 9 = .ok (.iload_n 2, 1) := by decide +kernel
theorem dX6_sheet_10 : decode cX6_sheet 10 = .ok (.iconst 0, 1) := by decide +kernel
theorem dX6_sheet_11 : decode cX6_sheet 11 = .ok (.iconst 2, 1) := by decide +kernel
theorem dX6_sheet_12 : decode cX6_sheet 12 = .ok (.invokestatic 96, 3) := by decide +kernel
theorem dX6_sheet_15 : decode cX6_sheet 15 = .ok (.ifCond .eq 9, 3) := by decide +kernel
theorem dX6_sheet_18 : decode cX6_sheet 18 = .ok (.iload_n 3, 1) := by decide +kernel
theorem dX6_sheet_19 : decode cX6_sheet 19 = .ok (.bipush 40, 2) := by decide +kernel
theorem dX6_sheet_21 : decode cX6_sheet 21 = .ok (.if_icmp .le 5, 3) := by decide +kernel
theorem dX6_sheet_24 : decode cX6_sheet 24 = .ok (.iconst (-1), 1) := by decide +kernel
theorem dX6_sheet_25 : decode cX6_sheet 25 = .ok (.ireturn, 1) := by decide +kernel
theorem dX6_sheet_26 : decode cX6_sheet 26 = .ok (.iload_n 3, 1) := by decide +kernel
theorem dX6_sheet_27 : decode cX6_sheet 27 = .ok (.ifCond .ge 6, 3) := by decide +kernel
theorem dX6_sheet_30 : decode cX6_sheet 30 = .ok (.bipush (-14), 2) := by decide +kernel
theorem dX6_sheet_32 : decode cX6_sheet 32 = .ok (.ireturn, 1) := by decide +kernel
theorem dX6_sheet_33 : decode cX6_sheet 33 = .ok (.aload_n 0, 1) := by decide +kernel
theorem dX6_sheet_34 : decode cX6_sheet 34 = .ok (.getfield 36, 3) := by decide +kernel
theorem dX6_sheet_37 : decode cX6_sheet 37 = .ok (.iload_n 1, 1) := by decide +kernel
theorem dX6_sheet_38 : decode cX6_sheet 38 = .ok (.aaload, 1) := by decide +kernel
theorem dX6_sheet_39 : decode cX6_sheet 39 = .ok (.iload_n 2, 1) := by decide +kernel
theorem dX6_sheet_40 : decode cX6_sheet 40 = .ok (.iload_n 3, 1) := by decide +kernel
theorem dX6_sheet_41 : decode cX6_sheet 41 = .ok (.invokevirtual 271, 3) := by decide +kernel
theorem dX6_sheet_44 : decode cX6_sheet 44 = .ok (.iconst 1, 1) := by decide +kernel
theorem dX6_sheet_45 : decode cX6_sheet 45 = .ok (.ireturn, 1) := by decide +kernel
abbrev rm_X6_sheet : Room := { frames := 2, cells := 0, slots := 0, locals := 45 }
theorem m_X6_sheet (l : Launch) (O : oa_O) (a : Nat → Nat) (B : oa_I3) (J : oa_J2) (x1 : Int32) (x2 : Int32) (x3 : Int32) (res : Int32 × oa_I3) (hf : f_X6_sheet B J x1 x2 x3 = some res) : oa_M l yX6_sheet cX6_sheet 4 (some .int) rm_X6_sheet O [.ref (a 0), .int x1, .int x2, .int x3] (wd_O O a B J) (some (.int res.1)) (fun W1 => W1 = wd_O O a res.2 J) := by
  refine oa_Mof (by decide) (Nat.le_of_ble_eq_true rfl) (fun G A hl C => ?_)
  subst hl
  have C : oa_C G cX6_sheet 4 RX6 (some .int) rm_X6_sheet O A := C
  have hf : f_X6_sheet B J x1 x2 x3 = some res := hf
  delta f_X6_sheet at hf
  show ww G 4 O A (oa_Q G O A (0, 0) (some (.int res.1)) (fun W1 => W1 = wd_O O a res.2 J)) (0, 0) 0 [(0, .ref (a 0)), (1, .int x1), (2, .int x2), (3, .int x3)] [] (wd_O O a B J)
  refine ww_iload_n (pc := 0) (i := 1) C 1 dX6_sheet_0 rfl rfl ?_
  refine ww_iconst (pc := 1) C dX6_sheet_1 kc_0 ?_
  refine ww_iconst (pc := 2) C dX6_sheet_2 kc_3 ?_
  obtain ⟨y1, e2, hf⟩ := oa_bind hf
  refine ww_callS (pc := 3) (As := [.int x1, .int 0, .int 3]) (rest := []) (wd := []) (ws' := wd_O O a B J) (rv := (some (.int y1))) C hY_X6_within hS_X6_within lk_X6_96 (m_X6_within _ O  x1 0 3 _ e2) [] rfl rfl rfl (oa_putS _ _ _ rfl) (fun _ h => h) ⟨rfl, rfl⟩ ⟨Nat.zero_le _, Nat.zero_le _⟩ ⟨Nat.le_of_ble_eq_true rfl, Nat.le_of_ble_eq_true rfl⟩ rfl (Nat.le_of_ble_eq_true rfl) rfl rfl dX6_sheet_3 ?_
  refine ww_if_eq (pc := 6) (tgt := 24) C dX6_sheet_6 (by decide) (fun c4 => ?_) (fun c4 => ?_)
  · have hf := oa_ifp c4 hf
    refine ww_iconst (pc := 24) C dX6_sheet_24 kc_m1 ?_
    obtain rfl := Option.some.inj hf
    exact ww_iret (pc := 25) C rfl dX6_sheet_25
  · have hf := oa_ifn c4 hf
    refine ww_iload_n (pc := 9) (i := 2) C 2 dX6_sheet_9 rfl rfl ?_
    refine ww_iconst (pc := 10) C dX6_sheet_10 kc_0 ?_
    refine ww_iconst (pc := 11) C dX6_sheet_11 kc_2 ?_
    obtain ⟨y5, e6, hf⟩ := oa_bind hf
    refine ww_callS (pc := 12) (As := [.int x2, .int 0, .int 2]) (rest := []) (wd := []) (ws' := wd_O O a B J) (rv := (some (.int y5))) C hY_X6_within hS_X6_within lk_X6_96 (m_X6_within _ O  x2 0 2 _ e6) [] rfl rfl rfl (oa_putS _ _ _ rfl) (fun _ h => h) ⟨rfl, rfl⟩ ⟨Nat.zero_le _, Nat.zero_le _⟩ ⟨Nat.le_of_ble_eq_true rfl, Nat.le_of_ble_eq_true rfl⟩ rfl (Nat.le_of_ble_eq_true rfl) rfl rfl dX6_sheet_12 ?_
    refine ww_if_eq (pc := 15) (tgt := 24) C dX6_sheet_15 (by decide) (fun c8 => ?_) (fun c8 => ?_)
    · have hf := oa_ifp c8 hf
      refine ww_iconst (pc := 24) C dX6_sheet_24 kc_m1 ?_
      obtain rfl := Option.some.inj hf
      exact ww_iret (pc := 25) C rfl dX6_sheet_25
    · have hf := oa_ifn c8 hf
      refine ww_iload_n (pc := 18) (i := 3) C 3 dX6_sheet_18 rfl rfl ?_
      refine ww_bipush (pc := 19) C dX6_sheet_19 kb_40 ?_
      refine ww_icmp_le (pc := 21) (tgt := 26) C dX6_sheet_21 (by decide) (fun c9 => ?_) (fun c9 => ?_)
      · have hf := oa_ifp c9 hf
        refine ww_iload_n (pc := 26) (i := 3) C 3 dX6_sheet_26 rfl rfl ?_
        refine ww_if_ge (pc := 27) (tgt := 33) C dX6_sheet_27 (by decide) (fun c10 => ?_) (fun c10 => ?_)
        · have hf := oa_ifp c10 hf
          refine ww_aload_n (pc := 33) (i := 0) C 0 dX6_sheet_33 rfl rfl ?_
          refine ww_get (pc := 34) C fl_X6_36 0 rfl rfl dX6_sheet_34 ?_
          refine ww_iload_n (pc := 37) (i := 1) C 1 dX6_sheet_37 rfl rfl ?_
          by_cases c11 : x1 = 0
          · have hf := oa_ifp c11 hf
            refine ww_aald (pc := 38) (i0 := 0) (b := (a 42)) (Cn := "OneAnger$Sheet") C 23 rfl rfl c11 (by decide) (by decide) rfl dX6_sheet_38 ?_
            refine ww_iload_n (pc := 39) (i := 2) C 2 dX6_sheet_39 rfl rfl ?_
            refine ww_iload_n (pc := 40) (i := 3) C 3 dX6_sheet_40 rfl rfl ?_
            obtain ⟨S12, e13, hf⟩ := oa_bind hf
            obtain ⟨B15, e16, hf⟩ := oa_letE hf
            refine ww_callV (pc := 41) (As := [.int x2, .int x3]) (rest := []) (wd := wd_S O (fun i => a (i + 42)) S12) (ws' := wd_O O a B15 J) (rv := none) C hY_X3_renew hV_X3_renew lk_X6_271 (m_X3_renew _ O (fun i => a (i + 42)) (B 7) x2 x3 _ e13) [42, 43] 42 rfl rfl rfl rfl rfl (by subst e16; rfl) (fun _ h => h) ⟨rfl, rfl⟩ ⟨Nat.zero_le _, Nat.zero_le _⟩ ⟨Nat.le_of_ble_eq_true rfl, Nat.le_of_ble_eq_true rfl⟩ rfl (Nat.le_of_ble_eq_true rfl) rfl rfl dX6_sheet_41 ?_
            refine ww_iconst (pc := 44) C dX6_sheet_44 kc_1 ?_
            obtain rfl := Option.some.inj hf
            exact ww_iret (pc := 45) C rfl dX6_sheet_45
          have hf := oa_ifn c11 hf
          by_cases c17 : x1 = 1
          · have hf := oa_ifp c17 hf
            refine ww_aald (pc := 38) (i0 := 1) (b := (a 44)) (Cn := "OneAnger$Sheet") C 23 rfl rfl c17 (by decide) (by decide) rfl dX6_sheet_38 ?_
            refine ww_iload_n (pc := 39) (i := 2) C 2 dX6_sheet_39 rfl rfl ?_
            refine ww_iload_n (pc := 40) (i := 3) C 3 dX6_sheet_40 rfl rfl ?_
            obtain ⟨S18, e19, hf⟩ := oa_bind hf
            obtain ⟨B21, e22, hf⟩ := oa_letE hf
            refine ww_callV (pc := 41) (As := [.int x2, .int x3]) (rest := []) (wd := wd_S O (fun i => a (i + 44)) S18) (ws' := wd_O O a B21 J) (rv := none) C hY_X3_renew hV_X3_renew lk_X6_271 (m_X3_renew _ O (fun i => a (i + 44)) (B 8) x2 x3 _ e19) [44, 45] 44 rfl rfl rfl rfl rfl (by subst e22; rfl) (fun _ h => h) ⟨rfl, rfl⟩ ⟨Nat.zero_le _, Nat.zero_le _⟩ ⟨Nat.le_of_ble_eq_true rfl, Nat.le_of_ble_eq_true rfl⟩ rfl (Nat.le_of_ble_eq_true rfl) rfl rfl dX6_sheet_41 ?_
            refine ww_iconst (pc := 44) C dX6_sheet_44 kc_1 ?_
            obtain rfl := Option.some.inj hf
            exact ww_iret (pc := 45) C rfl dX6_sheet_45
          have hf := oa_ifn c17 hf
          by_cases c23 : x1 = 2
          · have hf := oa_ifp c23 hf
            refine ww_aald (pc := 38) (i0 := 2) (b := (a 46)) (Cn := "OneAnger$Sheet") C 23 rfl rfl c23 (by decide) (by decide) rfl dX6_sheet_38 ?_
            refine ww_iload_n (pc := 39) (i := 2) C 2 dX6_sheet_39 rfl rfl ?_
            refine ww_iload_n (pc := 40) (i := 3) C 3 dX6_sheet_40 rfl rfl ?_
            obtain ⟨S24, e25, hf⟩ := oa_bind hf
            obtain ⟨B27, e28, hf⟩ := oa_letE hf
            refine ww_callV (pc := 41) (As := [.int x2, .int x3]) (rest := []) (wd := wd_S O (fun i => a (i + 46)) S24) (ws' := wd_O O a B27 J) (rv := none) C hY_X3_renew hV_X3_renew lk_X6_271 (m_X3_renew _ O (fun i => a (i + 46)) (B 9) x2 x3 _ e25) [46, 47] 46 rfl rfl rfl rfl rfl (by subst e28; rfl) (fun _ h => h) ⟨rfl, rfl⟩ ⟨Nat.zero_le _, Nat.zero_le _⟩ ⟨Nat.le_of_ble_eq_true rfl, Nat.le_of_ble_eq_true rfl⟩ rfl (Nat.le_of_ble_eq_true rfl) rfl rfl dX6_sheet_41 ?_
            refine ww_iconst (pc := 44) C dX6_sheet_44 kc_1 ?_
            obtain rfl := Option.some.inj hf
            exact ww_iret (pc := 45) C rfl dX6_sheet_45
          have hf := oa_ifn c23 hf
          by_cases c29 : x1 = 3
          · have hf := oa_ifp c29 hf
            refine ww_aald (pc := 38) (i0 := 3) (b := (a 48)) (Cn := "OneAnger$Sheet") C 23 rfl rfl c29 (by decide) (by decide) rfl dX6_sheet_38 ?_
            refine ww_iload_n (pc := 39) (i := 2) C 2 dX6_sheet_39 rfl rfl ?_
            refine ww_iload_n (pc := 40) (i := 3) C 3 dX6_sheet_40 rfl rfl ?_
            obtain ⟨S30, e31, hf⟩ := oa_bind hf
            obtain ⟨B33, e34, hf⟩ := oa_letE hf
            refine ww_callV (pc := 41) (As := [.int x2, .int x3]) (rest := []) (wd := wd_S O (fun i => a (i + 48)) S30) (ws' := wd_O O a B33 J) (rv := none) C hY_X3_renew hV_X3_renew lk_X6_271 (m_X3_renew _ O (fun i => a (i + 48)) (B 10) x2 x3 _ e31) [48, 49] 48 rfl rfl rfl rfl rfl (by subst e34; rfl) (fun _ h => h) ⟨rfl, rfl⟩ ⟨Nat.zero_le _, Nat.zero_le _⟩ ⟨Nat.le_of_ble_eq_true rfl, Nat.le_of_ble_eq_true rfl⟩ rfl (Nat.le_of_ble_eq_true rfl) rfl rfl dX6_sheet_41 ?_
            refine ww_iconst (pc := 44) C dX6_sheet_44 kc_1 ?_
            obtain rfl := Option.some.inj hf
            exact ww_iret (pc := 45) C rfl dX6_sheet_45
          have hf := oa_ifn c29 hf
          exact nomatch hf
        · have hf := oa_ifn c10 hf
          refine ww_bipush (pc := 30) C dX6_sheet_30 kb_m14 ?_
          obtain rfl := Option.some.inj hf
          exact ww_iret (pc := 32) C rfl dX6_sheet_32
      · have hf := oa_ifn c9 hf
        refine ww_iconst (pc := 24) C dX6_sheet_24 kc_m1 ?_
        obtain rfl := Option.some.inj hf
        exact ww_iret (pc := 25) C rfl dX6_sheet_25
theorem dX6_torn_0 : decode cX6_torn 0 = .ok (.aload_n 0, 1) := by decide +kernel
theorem dX6_torn_1 : decode cX6_torn 1 = .ok (.getfield 65, 3) := by decide +kernel
theorem dX6_torn_4 : decode cX6_torn 4 = .ok (.ireturn, 1) := by decide +kernel
abbrev rm_X6_torn : Room := { frames := 0, cells := 0, slots := 0, locals := 0 }
theorem m_X6_torn (l : Launch) (O : oa_O) (a : Nat → Nat) (B : oa_I3) (J : oa_J2)  (res : Int32) (hf : f_X6_torn B J = some res) : oa_M l yX6_torn cX6_torn 1 (some .int) rm_X6_torn O [.ref (a 0)] (wd_O O a B J) (some (.int res)) (fun W1 => W1 = wd_O O a B J) := by
  refine oa_Mof (by decide) (Nat.le_of_ble_eq_true rfl) (fun G A hl C => ?_)
  subst hl
  have C : oa_C G cX6_torn 1 RX6 (some .int) rm_X6_torn O A := C
  have hf : f_X6_torn B J = some res := hf
  delta f_X6_torn at hf
  show ww G 1 O A (oa_Q G O A (0, 0) (some (.int res)) (fun W1 => W1 = wd_O O a B J)) (0, 0) 0 [(0, .ref (a 0))] [] (wd_O O a B J)
  refine ww_aload_n (pc := 0) (i := 0) C 0 dX6_torn_0 rfl rfl ?_
  refine ww_get (pc := 1) C fl_X6_65 0 rfl rfl dX6_torn_1 ?_
  obtain rfl := Option.some.inj hf
  exact ww_iret (pc := 4) C rfl dX6_torn_4
theorem dX6_two_0 : decode cX6_two 0 = .ok (.iload_n 1, 1) := by decide +kernel
theorem dX6_two_1 : decode cX6_two 1 = .ok (.iconst 1, 1) := by decide +kernel
theorem dX6_two_2 : decode cX6_two 2 = .ok (.bipush 99, 2) := by decide +kernel
theorem dX6_two_4 : decode cX6_two 4 = .ok (.invokestatic 96, 3) := by decide +kernel
theorem dX6_two_7 : decode cX6_two 7 = .ok (.ifCond .ne 5, 3) := by decide +kernel
theorem dX6_two_10 : decode cX6_two 10 = .ok (.iconst (-1), 1) := by decide +kernel
theorem dX6_two_11 : decode cX6_two 11 = .ok (.ireturn, 1) := by decide +kernel
theorem dX6_two_12 : decode cX6_two 12 = .ok (.aload_n 0, 1) := by decide +kernel
theorem dX6_two_13 : decode cX6_two 13 = .ok (.getfield 10, 3) := by decide +kernel
theorem dX6_two_16 : decode cX6_two 16 = .ok (.getfield 100, 3) := by decide +kernel
theorem dX6_two_19 : decode cX6_two 19 = .ok (.iconst 0, 1) := by decide +kernel
theorem dX6_two_20 : decode cX6_two 20 = .ok (.iaload, 1) := by decide +kernel
theorem dX6_two_21 : decode cX6_two 21 = .ok (.iconst 2, 1) := by decide +kernel
theorem dX6_two_22 : decode cX6_two 22 = .ok (.if_icmp .ne 6, 3) := by decide +kernel
theorem dX6_two_25 : decode cX6_two 25 = .ok (.bipush (-2), 2) := by decide +kernel
theorem dX6_two_27 : decode cX6_two 27 = .ok (.ireturn, 1) := by decide +kernel
theorem dX6_two_28 : decode cX6_two 28 = .ok (.aload_n 0, 1) := by decide +kernel
theorem dX6_two_29 : decode cX6_two 29 = .ok (.getfield 16, 3) := by decide +kernel
theorem dX6_two_32 : decode cX6_two 32 = .ok (.aload_n 0, 1) := by decide +kernel
theorem dX6_two_33 : decode cX6_two 33 = .ok (.getfield 10, 3) := by decide +kernel
theorem dX6_two_36 : decode cX6_two 36 = .ok (.invokevirtual 89, 3) := by decide +kernel
theorem dX6_two_39 : decode cX6_two 39 = .ok (.aload_n 0, 1) := by decide +kernel
theorem dX6_two_40 : decode cX6_two 40 = .ok (.getfield 16, 3) := by decide +kernel
theorem dX6_two_43 : decode cX6_two 43 = .ok (.iload_n 1, 1) := by decide +kernel
theorem dX6_two_44 : decode cX6_two 44 = .ok (.invokevirtual 176, 3) := by decide +kernel
theorem dX6_two_47 : decode cX6_two 47 = .ok (.istore_n 2, 1) := by decide +kernel
theorem dX6_two_48 : decode cX6_two 48 = .ok (.aload_n 0, 1) := by decide +kernel
theorem dX6_two_49 : decode cX6_two 49 = .ok (.getfield 16, 3) := by decide +kernel
theorem dX6_two_52 : decode cX6_two 52 = .ok (.aload_n 0, 1) := by decide +kernel
theorem dX6_two_53 : decode cX6_two 53 = .ok (.getfield 10, 3) := by decide +kernel
theorem dX6_two_56 : decode cX6_two 56 = .ok (.invokevirtual 89, 3) := by decide +kernel
theorem dX6_two_59 : decode cX6_two 59 = .ok (.aload_n 0, 1) := by decide +kernel
theorem dX6_two_60 : decode cX6_two 60 = .ok (.getfield 16, 3) := by decide +kernel
theorem dX6_two_63 : decode cX6_two 63 = .ok (.getfield 100, 3) := by decide +kernel
theorem dX6_two_66 : decode cX6_two 66 = .ok (.iconst 0, 1) := by decide +kernel
theorem dX6_two_67 : decode cX6_two 67 = .ok (.iconst 2, 1) := by decide +kernel
theorem dX6_two_68 : decode cX6_two 68 = .ok (.iastore, 1) := by decide +kernel
theorem dX6_two_69 : decode cX6_two 69 = .ok (.aload_n 0, 1) := by decide +kernel
theorem dX6_two_70 : decode cX6_two 70 = .ok (.getfield 16, 3) := by decide +kernel
theorem dX6_two_73 : decode cX6_two 73 = .ok (.iload_n 1, 1) := by decide +kernel
theorem dX6_two_74 : decode cX6_two 74 = .ok (.invokevirtual 176, 3) := by decide +kernel
theorem dX6_two_77 : decode cX6_two 77 = .ok (.iload_n 2, 1) := by decide +kernel
theorem dX6_two_78 : decode cX6_two 78 = .ok (.isub, 1) := by decide +kernel
theorem dX6_two_79 : decode cX6_two 79 = .ok (.ldc 209, 2) := by decide +kernel
theorem dX6_two_81 : decode cX6_two 81 = .ok (.iadd, 1) := by decide +kernel
theorem dX6_two_82 : decode cX6_two 82 = .ok (.ireturn, 1) := by decide +kernel
abbrev rm_X6_two : Room := { frames := 7, cells := 0, slots := 0, locals := 160 }
theorem m_X6_two (l : Launch) (O : oa_O) (a : Nat → Nat) (B : oa_I3) (J : oa_J2) (x1 : Int32) (res : Int32 × oa_I3) (hf : f_X6_two B J x1 = some res) : oa_M l yX6_two cX6_two 3 (some .int) rm_X6_two O [.ref (a 0), .int x1] (wd_O O a B J) (some (.int res.1)) (fun W1 => W1 = wd_O O a res.2 J) := by
  refine oa_Mof (by decide) (Nat.le_of_ble_eq_true rfl) (fun G A hl C => ?_)
  subst hl
  have C : oa_C G cX6_two 3 RX6 (some .int) rm_X6_two O A := C
  have hf : f_X6_two B J x1 = some res := hf
  delta f_X6_two at hf
  show ww G 3 O A (oa_Q G O A (0, 0) (some (.int res.1)) (fun W1 => W1 = wd_O O a res.2 J)) (0, 0) 0 [(0, .ref (a 0)), (1, .int x1)] [] (wd_O O a B J)
  refine ww_iload_n (pc := 0) (i := 1) C 1 dX6_two_0 rfl rfl ?_
  refine ww_iconst (pc := 1) C dX6_two_1 kc_1 ?_
  refine ww_bipush (pc := 2) C dX6_two_2 kb_99 ?_
  obtain ⟨y1, e2, hf⟩ := oa_bind hf
  refine ww_callS (pc := 4) (As := [.int x1, .int 1, .int 99]) (rest := []) (wd := []) (ws' := wd_O O a B J) (rv := (some (.int y1))) C hY_X6_within hS_X6_within lk_X6_96 (m_X6_within _ O  x1 1 99 _ e2) [] rfl rfl rfl (oa_putS _ _ _ rfl) (fun _ h => h) ⟨rfl, rfl⟩ ⟨Nat.zero_le _, Nat.zero_le _⟩ ⟨Nat.le_of_ble_eq_true rfl, Nat.le_of_ble_eq_true rfl⟩ rfl (Nat.le_of_ble_eq_true rfl) rfl rfl dX6_two_4 ?_
  refine ww_if_ne (pc := 7) (tgt := 12) C dX6_two_7 (by decide) (fun c4 => ?_) (fun c4 => ?_)
  · have hf := oa_ifn c4 hf
    refine ww_aload_n (pc := 12) (i := 0) C 0 dX6_two_12 rfl rfl ?_
    refine ww_get (pc := 13) C fl_X6_10 0 rfl rfl dX6_two_13 ?_
    refine ww_get (pc := 16) C fl_X6_100 1 rfl rfl dX6_two_16 ?_
    refine ww_iconst (pc := 19) C dX6_two_19 kc_0 ?_
    obtain ⟨y5, e6, hf⟩ := oa_bind hf
    refine ww_iald (pc := 20) C 2 rfl e6 dX6_two_20 ?_
    refine ww_iconst (pc := 21) C dX6_two_21 kc_2 ?_
    refine ww_icmp_ne (pc := 22) (tgt := 28) C dX6_two_22 (by decide) (fun c7 => ?_) (fun c7 => ?_)
    · have hf := oa_ifn c7 hf
      refine ww_aload_n (pc := 28) (i := 0) C 0 dX6_two_28 rfl rfl ?_
      refine ww_get (pc := 29) C fl_X6_16 0 rfl rfl dX6_two_29 ?_
      refine ww_aload_n (pc := 32) (i := 0) C 0 dX6_two_32 rfl rfl ?_
      refine ww_get (pc := 33) C fl_X6_10 0 rfl rfl dX6_two_33 ?_
      obtain ⟨V8, e9, hf⟩ := oa_bind hf
      obtain ⟨B11, e12, hf⟩ := oa_letE hf
      refine ww_callV (pc := 36) (As := [.ref (a 1)]) (rest := []) (wd := wd_VV O (fun i => a (i + 7)) (fun i => a (i + 1)) V8 (B 0)) (ws' := wd_O O a B11 J) (rv := none) C hY_X5_copyOf hV_X5_copyOf lk_X6_89 (m_X5_copyOf _ O (fun i => a (i + 7)) (fun i => a (i + 1)) (B 1) (B 0) _ e9) [7, 8, 9, 10, 11, 12, 1, 2, 3, 4, 5, 6] 7 rfl rfl rfl rfl rfl (by subst e12; rfl) (fun _ h => h) ⟨rfl, rfl⟩ ⟨Nat.zero_le _, Nat.zero_le _⟩ ⟨Nat.le_of_ble_eq_true rfl, Nat.le_of_ble_eq_true rfl⟩ rfl (Nat.le_of_ble_eq_true rfl) rfl rfl dX6_two_36 ?_
      refine ww_aload_n (pc := 39) (i := 0) C 0 dX6_two_39 rfl rfl ?_
      refine ww_get (pc := 40) C fl_X6_16 0 rfl rfl dX6_two_40 ?_
      refine ww_iload_n (pc := 43) (i := 1) C 1 dX6_two_43 rfl rfl ?_
      obtain ⟨y13, V14, e15, hf⟩ := oa_bind2 hf
      obtain ⟨B17, e18, hf⟩ := oa_letE hf
      refine ww_callV (pc := 44) (As := [.int x1]) (rest := []) (wd := wd_V O (fun i => a (i + 7)) V14) (ws' := wd_O O a B17 J) (rv := (some (.int y13))) C hY_X5_passWeeks hV_X5_passWeeks lk_X6_176 (m_X5_passWeeks _ O (fun i => a (i + 7)) (B11 1) x1 _ e15) [7, 8, 9, 10, 11, 12] 7 rfl rfl rfl rfl rfl (by subst e18; rfl) (fun _ h => h) ⟨rfl, rfl⟩ ⟨Nat.zero_le _, Nat.zero_le _⟩ ⟨Nat.le_of_ble_eq_true rfl, Nat.le_of_ble_eq_true rfl⟩ rfl (Nat.le_of_ble_eq_true rfl) rfl rfl dX6_two_44 ?_
      refine ww_istore_n (pc := 47) (L' := [(0, .ref (a 0)), (1, .int x1), (2, .int y13)]) C [1, 2, 0] dX6_two_47 rfl (Nat.le_of_ble_eq_true rfl) rfl ?_
      refine ww_aload_n (pc := 48) (i := 0) C 0 dX6_two_48 rfl rfl ?_
      refine ww_get (pc := 49) C fl_X6_16 0 rfl rfl dX6_two_49 ?_
      refine ww_aload_n (pc := 52) (i := 0) C 0 dX6_two_52 rfl rfl ?_
      refine ww_get (pc := 53) C fl_X6_10 0 rfl rfl dX6_two_53 ?_
      obtain ⟨V19, e20, hf⟩ := oa_bind hf
      obtain ⟨B22, e23, hf⟩ := oa_letE hf
      refine ww_callV (pc := 56) (As := [.ref (a 1)]) (rest := []) (wd := wd_VV O (fun i => a (i + 7)) (fun i => a (i + 1)) V19 (B17 0)) (ws' := wd_O O a B22 J) (rv := none) C hY_X5_copyOf hV_X5_copyOf lk_X6_89 (m_X5_copyOf _ O (fun i => a (i + 7)) (fun i => a (i + 1)) (B17 1) (B17 0) _ e20) [7, 8, 9, 10, 11, 12, 1, 2, 3, 4, 5, 6] 7 rfl rfl rfl rfl rfl (by subst e23; rfl) (fun _ h => h) ⟨rfl, rfl⟩ ⟨Nat.zero_le _, Nat.zero_le _⟩ ⟨Nat.le_of_ble_eq_true rfl, Nat.le_of_ble_eq_true rfl⟩ rfl (Nat.le_of_ble_eq_true rfl) rfl rfl dX6_two_56 ?_
      refine ww_aload_n (pc := 59) (i := 0) C 0 dX6_two_59 rfl rfl ?_
      refine ww_get (pc := 60) C fl_X6_16 0 rfl rfl dX6_two_60 ?_
      refine ww_get (pc := 63) C fl_X6_100 7 rfl rfl dX6_two_63 ?_
      refine ww_iconst (pc := 66) C dX6_two_66 kc_0 ?_
      refine ww_iconst (pc := 67) C dX6_two_67 kc_2 ?_
      obtain ⟨g24, e25, hf⟩ := oa_bind hf
      obtain ⟨B26, e27, hf⟩ := oa_letE hf
      refine ww_iast (pc := 68) C (fun Z => wd_O O a Z J) 8 rfl e25 e27 rfl dX6_two_68 ?_
      refine ww_aload_n (pc := 69) (i := 0) C 0 dX6_two_69 rfl rfl ?_
      refine ww_get (pc := 70) C fl_X6_16 0 rfl rfl dX6_two_70 ?_
      refine ww_iload_n (pc := 73) (i := 1) C 1 dX6_two_73 rfl rfl ?_
      obtain ⟨y28, V29, e30, hf⟩ := oa_bind2 hf
      obtain ⟨B32, e33, hf⟩ := oa_letE hf
      refine ww_callV (pc := 74) (As := [.int x1]) (rest := []) (wd := wd_V O (fun i => a (i + 7)) V29) (ws' := wd_O O a B32 J) (rv := (some (.int y28))) C hY_X5_passWeeks hV_X5_passWeeks lk_X6_176 (m_X5_passWeeks _ O (fun i => a (i + 7)) (B26 1) x1 _ e30) [7, 8, 9, 10, 11, 12] 7 rfl rfl rfl rfl rfl (by subst e33; rfl) (fun _ h => h) ⟨rfl, rfl⟩ ⟨Nat.zero_le _, Nat.zero_le _⟩ ⟨Nat.le_of_ble_eq_true rfl, Nat.le_of_ble_eq_true rfl⟩ rfl (Nat.le_of_ble_eq_true rfl) rfl rfl dX6_two_74 ?_
      refine ww_iload_n (pc := 77) (i := 2) C 2 dX6_two_77 rfl rfl ?_
      refine ww_isub (pc := 78) C dX6_two_78 ?_
      refine ww_ldc (pc := 79) C cw_X6_209 dX6_two_79 ?_
      refine ww_iadd (pc := 81) C dX6_two_81 ?_
      obtain rfl := Option.some.inj hf
      exact ww_iret (pc := 82) C rfl dX6_two_82
    · have hf := oa_ifp c7 hf
      refine ww_bipush (pc := 25) C dX6_two_25 kb_m2 ?_
      obtain rfl := Option.some.inj hf
      exact ww_iret (pc := 27) C rfl dX6_two_27
  · have hf := oa_ifp c4 hf
    refine ww_iconst (pc := 10) C dX6_two_10 kc_m1 ?_
    obtain rfl := Option.some.inj hf
    exact ww_iret (pc := 11) C rfl dX6_two_11
theorem dX6_village_0 : decode cX6_village 0 = .ok (.aload_n 0, 1) := by decide +kernel
theorem dX6_village_1 : decode cX6_village 1 = .ok (.getfield 22, 3) := by decide +kernel
theorem dX6_village_4 : decode cX6_village 4 = .ok (.invokevirtual 77, 3) := by decide +kernel
theorem dX6_village_7 : decode cX6_village 7 = .ok (.aload_n 0, 1) := by decide +kernel
theorem dX6_village_8 : decode cX6_village 8 = .ok (.aload_n 0, 1) := by decide +kernel
theorem dX6_village_9 : decode cX6_village 9 = .ok (.getfield 22, 3) := by decide +kernel
theorem dX6_village_12 : decode cX6_village 12 = .ok (.getfield 80, 3) := by decide +kernel
theorem dX6_village_15 : decode cX6_village 15 = .ok (.putfield 61, 3) := by decide +kernel
theorem dX6_village_18 : decode cX6_village 18 = .ok (.aload_n 0, 1) := by decide +kernel
theorem dX6_village_19 : decode cX6_village 19 = .ok (.getfield 61, 3) := by decide +kernel
theorem dX6_village_22 : decode cX6_village 22 = .ok (.ifCond .eq 14, 3) := by decide +kernel
theorem dX6_village_25 : decode cX6_village 25 = .ok (.bipush (-10), 2) := by decide +kernel
theorem dX6_village_27 : decode cX6_village 27 = .ok (.aload_n 0, 1) := by decide +kernel
theorem dX6_village_28 : decode cX6_village 28 = .ok (.getfield 22, 3) := by decide +kernel
theorem dX6_village_31 : decode cX6_village 31 = .ok (.getfield 83, 3) := by decide +kernel
theorem dX6_village_34 : decode cX6_village 34 = .ok (.isub, 1) := by decide +kernel
theorem dX6_village_35 : decode cX6_village 35 = .ok (.ireturn, 1) := by decide +kernel
theorem dX6_village_36 : decode cX6_village 36 = .ok (.aload_n 0, 1) := by decide +kernel
theorem dX6_village_37 : decode cX6_village 37 = .ok (.getfield 10, 3) := by decide +kernel
theorem dX6_village_40 : decode cX6_village 40 = .ok (.aload_n 0, 1) := by decide +kernel
theorem dX6_village_41 : decode cX6_village 41 = .ok (.getfield 22, 3) := by decide +kernel
theorem dX6_village_44 : decode cX6_village 44 = .ok (.getfield 86, 3) := by decide +kernel
theorem dX6_village_47 : decode cX6_village 47 = .ok (.invokevirtual 89, 3) := by decide +kernel
theorem dX6_village_50 : decode cX6_village 50 = .ok (.iconst 0, 1) := by decide +kernel
theorem dX6_village_51 : decode cX6_village 51 = .ok (.istore_n 1, 1) := by decide +kernel
theorem dX6_village_52 : decode cX6_village 52 = .ok (.iload_n 1, 1) := by decide +kernel
theorem dX6_village_53 : decode cX6_village 53 = .ok (.iconst 2, 1) := by decide +kernel
theorem dX6_village_54 : decode cX6_village 54 = .ok (.if_icmp .ge 16, 3) := by decide +kernel
theorem dX6_village_57 : decode cX6_village 57 = .ok (.aload_n 0, 1) := by decide +kernel
theorem dX6_village_58 : decode cX6_village 58 = .ok (.getfield 30, 3) := by decide +kernel
theorem dX6_village_61 : decode cX6_village 61 = .ok (.iload_n 1, 1) := by decide +kernel
theorem dX6_village_62 : decode cX6_village 62 = .ok (.iconst 0, 1) := by decide +kernel
theorem dX6_village_63 : decode cX6_village 63 = .ok (.bastore, 1) := by decide +kernel
theorem dX6_village_64 : decode cX6_village 64 = .ok (.iinc 1 1, 3) := by decide +kernel
theorem dX6_village_67 : decode cX6_village 67 = .ok (.goto (-15), 3) := by decide +kernel
theorem dX6_village_70 : decode cX6_village 70 = .ok (.aload_n 0, 1) := by decide +kernel
theorem dX6_village_71 : decode cX6_village 71 = .ok (.getfield 22, 3) := by decide +kernel
theorem dX6_village_74 : decode cX6_village 74 = .ok (.getfield 93, 3) := by decide +kernel
theorem dX6_village_77 : decode cX6_village 77 = .ok (.ireturn, 1) := by decide +kernel
abbrev rm_X6_village : Room := { frames := 9, cells := 0, slots := 0, locals := 197 }
theorem t_b_X6_village_52 {G : oa_G} {O : oa_O} {A : Nat → Prop} {a : Nat → Nat} {res : Int32 × oa_I3} (C : oa_C G cX6_village 2 RX6 (some .int) rm_X6_village O A) (J : oa_J2)    (k52 : oa_I3 → Int32 → Option (Int32 × oa_I3))  (hk52 : ∀ (b_B : oa_I3) (b_x1 : Int32), k52 b_B b_x1 = some res → ww G 2 O A (oa_Q G O A (0, 0) (some (.int res.1)) (fun W1 => W1 = wd_O O a res.2 J)) (0, 0) 52 [(0, .ref (a 0)), (1, .int b_x1)] [] (wd_O O a b_B J)) (B : oa_I3) (x1 : Int32) (hf : b_X6_village_52 J k52 B x1 = some res) : ww G 2 O A (oa_Q G O A (0, 0) (some (.int res.1)) (fun W1 => W1 = wd_O O a res.2 J)) (0, 0) 52 [(0, .ref (a 0)), (1, .int x1)] [] (wd_O O a B J) := by
  delta b_X6_village_52 at hf
  refine ww_iload_n (pc := 52) (i := 1) C 1 dX6_village_52 rfl rfl ?_
  refine ww_iconst (pc := 53) C dX6_village_53 kc_2 ?_
  refine ww_icmp_ge (pc := 54) (tgt := 70) C dX6_village_54 (by decide) (fun c15 => ?_) (fun c15 => ?_)
  · have hf := oa_ifp c15 hf
    refine ww_aload_n (pc := 70) (i := 0) C 0 dX6_village_70 rfl rfl ?_
    refine ww_get (pc := 71) C fl_X6_22 0 rfl rfl dX6_village_71 ?_
    refine ww_get (pc := 74) C fl_X6_93 13 rfl rfl dX6_village_74 ?_
    obtain rfl := Option.some.inj hf
    exact ww_iret (pc := 77) C rfl dX6_village_77
  · have hf := oa_ifn c15 hf
    refine ww_aload_n (pc := 57) (i := 0) C 0 dX6_village_57 rfl rfl ?_
    refine ww_get (pc := 58) C fl_X6_30 0 rfl rfl dX6_village_58 ?_
    refine ww_iload_n (pc := 61) (i := 1) C 1 dX6_village_61 rfl rfl ?_
    refine ww_iconst (pc := 62) C dX6_village_62 kc_0 ?_
    obtain ⟨g16, e17, hf⟩ := oa_bind hf
    obtain ⟨B18, e19, hf⟩ := oa_letE hf
    refine ww_zast (pc := 63) C (fun Z => wd_O O a Z J) 22 rfl e17 e19 rfl dX6_village_63 ?_
    refine ww_iinc (pc := 64) (v := (x1 + 1)) (L' := [(0, .ref (a 0)), (1, .int (x1 + 1))]) C 1 [1, 0] dX6_village_64 rfl (ki_1 _) (Nat.le_of_ble_eq_true rfl) rfl ?_
    refine ww_goto (pc := 67) (tgt := 52) C dX6_village_67 (by decide) ?_
    exact hk52 B18 (x1 + 1) hf
theorem t_l_X6_village_52 {G : oa_G} {O : oa_O} {A : Nat → Prop} {a : Nat → Nat} {res : Int32 × oa_I3} (C : oa_C G cX6_village 2 RX6 (some .int) rm_X6_village O A) (J : oa_J2)    : ∀ (n : Nat) (B : oa_I3) (x1 : Int32), l_X6_village_52 J n B x1 = some res → ww G 2 O A (oa_Q G O A (0, 0) (some (.int res.1)) (fun W1 => W1 = wd_O O a res.2 J)) (0, 0) 52 [(0, .ref (a 0)), (1, .int x1)] [] (wd_O O a B J) := by
  intro n
  induction n with
  | zero => intro B x1 hf; exact absurd (show (none : Option (Int32 × oa_I3)) = some res from hf) (fun h => nomatch h)
  | succ n ih =>
    intro B x1 hf
    exact t_b_X6_village_52 C J  (fun B x1 => l_X6_village_52 J n B x1)  (fun B x1 h => ih B x1 h) B x1 hf
theorem m_X6_village (l : Launch) (O : oa_O) (a : Nat → Nat) (B : oa_I3) (J : oa_J2)  (res : Int32 × oa_I3) (hf : f_X6_village B J = some res) : oa_M l yX6_village cX6_village 2 (some .int) rm_X6_village O [.ref (a 0)] (wd_O O a B J) (some (.int res.1)) (fun W1 => W1 = wd_O O a res.2 J) := by
  refine oa_Mof (by decide) (Nat.le_of_ble_eq_true rfl) (fun G A hl C => ?_)
  subst hl
  have C : oa_C G cX6_village 2 RX6 (some .int) rm_X6_village O A := C
  have hf : f_X6_village B J = some res := hf
  delta f_X6_village at hf
  show ww G 2 O A (oa_Q G O A (0, 0) (some (.int res.1)) (fun W1 => W1 = wd_O O a res.2 J)) (0, 0) 0 [(0, .ref (a 0))] [] (wd_O O a B J)
  refine ww_aload_n (pc := 0) (i := 0) C 0 dX6_village_0 rfl rfl ?_
  refine ww_get (pc := 1) C fl_X6_22 0 rfl rfl dX6_village_1 ?_
  obtain ⟨T1, V2, e3, hf⟩ := oa_bind2 hf
  obtain ⟨B5, e6, hf⟩ := oa_letE hf
  refine ww_callV (pc := 4) (As := []) (rest := []) (wd := wd_T O (fun i => a (i + 13)) (fun i => a (i + 15)) T1 V2) (ws' := wd_O O a B5 J) (rv := none) C hY_X4_tell hV_X4_tell lk_X6_77 (m_X4_tell _ O (fun i => a (i + 13)) (fun i => a (i + 15)) (B 5) (B 2) _ e3) [13, 14, 15, 16, 17, 18, 19, 20] 13 rfl rfl rfl rfl rfl (by subst e6; rfl) (fun _ h => h) ⟨rfl, rfl⟩ ⟨Nat.zero_le _, Nat.zero_le _⟩ ⟨Nat.le_of_ble_eq_true rfl, Nat.le_of_ble_eq_true rfl⟩ rfl (Nat.le_of_ble_eq_true rfl) rfl rfl dX6_village_4 ?_
  refine ww_aload_n (pc := 7) (i := 0) C 0 dX6_village_7 rfl rfl ?_
  refine ww_aload_n (pc := 8) (i := 0) C 0 dX6_village_8 rfl rfl ?_
  refine ww_get (pc := 9) C fl_X6_22 0 rfl rfl dX6_village_9 ?_
  refine ww_get (pc := 12) C fl_X6_80 13 rfl rfl dX6_village_12 ?_
  obtain ⟨B7, e8, hf⟩ := oa_letE hf
  refine ww_put (pc := 15) C fl_X6_61 (fun Z => wd_O O a Z J) 0 rfl rfl rfl (Nat.le_of_ble_eq_true rfl) e8 rfl dX6_village_15 ?_
  refine ww_aload_n (pc := 18) (i := 0) C 0 dX6_village_18 rfl rfl ?_
  refine ww_get (pc := 19) C fl_X6_61 0 rfl rfl dX6_village_19 ?_
  refine ww_if_eq (pc := 22) (tgt := 36) C dX6_village_22 (by decide) (fun c9 => ?_) (fun c9 => ?_)
  · have hf := oa_ifp c9 hf
    refine ww_aload_n (pc := 36) (i := 0) C 0 dX6_village_36 rfl rfl ?_
    refine ww_get (pc := 37) C fl_X6_10 0 rfl rfl dX6_village_37 ?_
    refine ww_aload_n (pc := 40) (i := 0) C 0 dX6_village_40 rfl rfl ?_
    refine ww_get (pc := 41) C fl_X6_22 0 rfl rfl dX6_village_41 ?_
    refine ww_get (pc := 44) C fl_X6_86 13 rfl rfl dX6_village_44 ?_
    obtain ⟨V10, e11, hf⟩ := oa_bind hf
    obtain ⟨B13, e14, hf⟩ := oa_letE hf
    refine ww_callV (pc := 47) (As := [.ref (a 15)]) (rest := []) (wd := wd_VV O (fun i => a (i + 1)) (fun i => a (i + 15)) V10 (B7 2)) (ws' := wd_O O a B13 J) (rv := none) C hY_X5_copyOf hV_X5_copyOf lk_X6_89 (m_X5_copyOf _ O (fun i => a (i + 1)) (fun i => a (i + 15)) (B7 0) (B7 2) _ e11) [1, 2, 3, 4, 5, 6, 15, 16, 17, 18, 19, 20] 1 rfl rfl rfl rfl rfl (by subst e14; rfl) (fun _ h => h) ⟨rfl, rfl⟩ ⟨Nat.zero_le _, Nat.zero_le _⟩ ⟨Nat.le_of_ble_eq_true rfl, Nat.le_of_ble_eq_true rfl⟩ rfl (Nat.le_of_ble_eq_true rfl) rfl rfl dX6_village_47 ?_
    refine ww_iconst (pc := 50) C dX6_village_50 kc_0 ?_
    refine ww_istore_n (pc := 51) (L' := [(0, .ref (a 0)), (1, .int 0)]) C [1, 0] dX6_village_51 rfl (Nat.le_of_ble_eq_true rfl) rfl ?_
    exact t_l_X6_village_52 C J    oa_fu B13 0 hf
  · have hf := oa_ifn c9 hf
    refine ww_bipush (pc := 25) C dX6_village_25 kb_m10 ?_
    refine ww_aload_n (pc := 27) (i := 0) C 0 dX6_village_27 rfl rfl ?_
    refine ww_get (pc := 28) C fl_X6_22 0 rfl rfl dX6_village_28 ?_
    refine ww_get (pc := 31) C fl_X6_83 13 rfl rfl dX6_village_31 ?_
    refine ww_isub (pc := 34) C dX6_village_34 ?_
    obtain rfl := Option.some.inj hf
    exact ww_iret (pc := 35) C rfl dX6_village_35
theorem dX6_were_0 : decode cX6_were 0 = .ok (.aload_n 0, 1) := by decide +kernel
theorem dX6_were_1 : decode cX6_were 1 = .ok (.getfield 10, 3) := by decide +kernel
theorem dX6_were_4 : decode cX6_were 4 = .ok (.iload_n 1, 1) := by decide +kernel
theorem dX6_were_5 : decode cX6_were 5 = .ok (.invokevirtual 104, 3) := by decide +kernel
theorem dX6_were_8 : decode cX6_were 8 = .ok (.ifCond .eq 22, 3) := by decide +kernel
theorem dX6_were_11 : decode cX6_were 11 = .ok (.iload_n 2, 1) := by decide +kernel
theorem dX6_were_12 : decode cX6_were 12 = .ok (.iconst 0, 1) := by decide +kernel
theorem dX6_were_13 : decode cX6_were 13 = .ok (.iconst 4, 1) := by decide +kernel
theorem dX6_were_14 : decode cX6_were 14 = .ok (.invokestatic 96, 3) := by decide +kernel
theorem dX6_were_17 : decode cX6_were 17 = .ok (.ifCond .eq 13, 3) := by decide +kernel
theorem dX6_were_20 : decode cX6_were 20 = .ok (.iload_n 3, 1) := by decide +kernel
theorem dX6_were_21 : decode cX6_were 21 = .ok (.iconst 1, 1) := by decide +kernel
theorem dX6_were_22 : decode cX6_were 22 = .ok (.bipush 99, 2) := by decide +kernel
theorem dX6_were_24 : decode cX6_were 24 = .ok (.invokestatic 96, 3) := by decide +kernel
theorem dX6_were_27 : decode cX6_were 27 = .ok (.ifCond .ne 5, 3) := by decide +kernel
theorem dX6_were_30 : decode cX6_were 30 = .ok (.iconst (-1), 1) := by decide +kernel
theorem dX6_were_31 : decode cX6_were 31 = .ok (.ireturn, 1) := by decide +kernel
theorem dX6_were_32 : decode cX6_were 32 = .ok (.aload_n 0, 1) := by decide +kernel
theorem dX6_were_33 : decode cX6_were 33 = .ok (.getfield 16, 3) := by decide +kernel
theorem dX6_were_36 : decode cX6_were 36 = .ok (.aload_n 0, 1) := by decide +kernel
theorem dX6_were_37 : decode cX6_were 37 = .ok (.getfield 10, 3) := by decide +kernel
theorem dX6_were_40 : decode cX6_were 40 = .ok (.invokevirtual 89, 3) := by decide +kernel
theorem dX6_were_43 : decode cX6_were 43 = .ok (.aload_n 0, 1) := by decide +kernel
theorem dX6_were_44 : decode cX6_were 44 = .ok (.getfield 16, 3) := by decide +kernel
theorem dX6_were_47 : decode cX6_were 47 = .ok (.iload_n 3, 1) := by decide +kernel
theorem dX6_were_48 : decode cX6_were 48 = .ok (.invokevirtual 176, 3) := by decide +kernel
theorem dX6_were_51 : decode cX6_were 51 = .ok (.pop, 1) := by decide +kernel
theorem dX6_were_52 : decode cX6_were 52 = .ok (.aload_n 0, 1) := by decide +kernel
theorem dX6_were_53 : decode cX6_were 53 = .ok (.getfield 16, 3) := by decide +kernel
theorem dX6_were_56 : decode cX6_were 56 = .ok (.getfield 141, 3) := by decide +kernel
theorem dX6_were_59 : decode cX6_were 59 = .ok (.iload_n 1, 1) := by decide +kernel
theorem dX6_were_60 : decode cX6_were 60 = .ok (.iaload, 1) := by decide +kernel
theorem dX6_were_61 : decode cX6_were 61 = .ok (.istore 4, 2) := by decide +kernel
theorem dX6_were_63 : decode cX6_were 63 = .ok (.aload_n 0, 1) := by decide +kernel
theorem dX6_were_64 : decode cX6_were 64 = .ok (.getfield 16, 3) := by decide +kernel
theorem dX6_were_67 : decode cX6_were 67 = .ok (.aload_n 0, 1) := by decide +kernel
theorem dX6_were_68 : decode cX6_were 68 = .ok (.getfield 10, 3) := by decide +kernel
theorem dX6_were_71 : decode cX6_were 71 = .ok (.invokevirtual 89, 3) := by decide +kernel
theorem dX6_were_74 : decode cX6_were 74 = .ok (.aload_n 0, 1) := by decide +kernel
theorem dX6_were_75 : decode cX6_were 75 = .ok (.getfield 16, 3) := by decide +kernel
theorem dX6_were_78 : decode cX6_were 78 = .ok (.iconst 0, 1) := by decide +kernel
theorem dX6_were_79 : decode cX6_were 79 = .ok (.iload_n 1, 1) := by decide +kernel
theorem dX6_were_80 : decode cX6_were 80 = .ok (.iload_n 2, 1) := by decide +kernel
theorem dX6_were_81 : decode cX6_were 81 = .ok (.invokevirtual 127, 3) := by decide +kernel
theorem dX6_were_84 : decode cX6_were 84 = .ok (.aload_n 0, 1) := by decide +kernel
theorem dX6_were_85 : decode cX6_were 85 = .ok (.getfield 16, 3) := by decide +kernel
theorem dX6_were_88 : decode cX6_were 88 = .ok (.iload_n 3, 1) := by decide +kernel
theorem dX6_were_89 : decode cX6_were 89 = .ok (.invokevirtual 176, 3) := by decide +kernel
theorem dX6_were_92 : decode cX6_were 92 = .ok (.pop, 1) := by decide +kernel
theorem dX6_were_93 : decode cX6_were 93 = .ok (.aload_n 0, 1) := by decide +kernel
theorem dX6_were_94 : decode cX6_were 94 = .ok (.getfield 16, 3) := by decide +kernel
theorem dX6_were_97 : decode cX6_were 97 = .ok (.getfield 141, 3) := by decide +kernel
theorem dX6_were_100 : decode cX6_were 100 = .ok (.iload_n 1, 1) := by decide +kernel
theorem dX6_were_101 : decode cX6_were 101 = .ok (.iaload, 1) := by decide +kernel
theorem dX6_were_102 : decode cX6_were 102 = .ok (.iload 4, 2) := by decide +kernel
theorem dX6_were_104 : decode cX6_were 104 = .ok (.isub, 1) := by decide +kernel
theorem dX6_were_105 : decode cX6_were 105 = .ok (.ldc 209, 2) := by decide +kernel
theorem dX6_were_107 : decode cX6_were 107 = .ok (.iadd, 1) := by decide +kernel
theorem dX6_were_108 : decode cX6_were 108 = .ok (.ireturn, 1) := by decide +kernel
abbrev rm_X6_were : Room := { frames := 7, cells := 0, slots := 0, locals := 160 }
theorem m_X6_were (l : Launch) (O : oa_O) (a : Nat → Nat) (B : oa_I3) (J : oa_J2) (x1 : Int32) (x2 : Int32) (x3 : Int32) (res : Int32 × oa_I3) (hf : f_X6_were B J x1 x2 x3 = some res) : oa_M l yX6_were cX6_were 5 (some .int) rm_X6_were O [.ref (a 0), .int x1, .int x2, .int x3] (wd_O O a B J) (some (.int res.1)) (fun W1 => W1 = wd_O O a res.2 J) := by
  refine oa_Mof (by decide) (Nat.le_of_ble_eq_true rfl) (fun G A hl C => ?_)
  subst hl
  have C : oa_C G cX6_were 5 RX6 (some .int) rm_X6_were O A := C
  have hf : f_X6_were B J x1 x2 x3 = some res := hf
  delta f_X6_were at hf
  show ww G 5 O A (oa_Q G O A (0, 0) (some (.int res.1)) (fun W1 => W1 = wd_O O a res.2 J)) (0, 0) 0 [(0, .ref (a 0)), (1, .int x1), (2, .int x2), (3, .int x3)] [] (wd_O O a B J)
  refine ww_aload_n (pc := 0) (i := 0) C 0 dX6_were_0 rfl rfl ?_
  refine ww_get (pc := 1) C fl_X6_10 0 rfl rfl dX6_were_1 ?_
  refine ww_iload_n (pc := 4) (i := 1) C 1 dX6_were_4 rfl rfl ?_
  obtain ⟨y1, e2, hf⟩ := oa_bind hf
  refine ww_callV (pc := 5) (As := [.int x1]) (rest := []) (wd := wd_V O (fun i => a (i + 1)) (B 0)) (ws' := wd_O O a B J) (rv := (some (.int y1))) C hY_X5_has hV_X5_has lk_X6_104 (m_X5_has _ O (fun i => a (i + 1)) (B 0) x1 _ e2) [1, 2, 3, 4, 5, 6] 1 rfl rfl rfl rfl rfl (oa_putS _ _ _ rfl) (fun _ h => h) ⟨rfl, rfl⟩ ⟨Nat.zero_le _, Nat.zero_le _⟩ ⟨Nat.le_of_ble_eq_true rfl, Nat.le_of_ble_eq_true rfl⟩ rfl (Nat.le_of_ble_eq_true rfl) rfl rfl dX6_were_5 ?_
  refine ww_if_eq (pc := 8) (tgt := 30) C dX6_were_8 (by decide) (fun c4 => ?_) (fun c4 => ?_)
  · have hf := oa_ifp c4 hf
    refine ww_iconst (pc := 30) C dX6_were_30 kc_m1 ?_
    obtain rfl := Option.some.inj hf
    exact ww_iret (pc := 31) C rfl dX6_were_31
  · have hf := oa_ifn c4 hf
    refine ww_iload_n (pc := 11) (i := 2) C 2 dX6_were_11 rfl rfl ?_
    refine ww_iconst (pc := 12) C dX6_were_12 kc_0 ?_
    refine ww_iconst (pc := 13) C dX6_were_13 kc_4 ?_
    obtain ⟨y5, e6, hf⟩ := oa_bind hf
    refine ww_callS (pc := 14) (As := [.int x2, .int 0, .int 4]) (rest := []) (wd := []) (ws' := wd_O O a B J) (rv := (some (.int y5))) C hY_X6_within hS_X6_within lk_X6_96 (m_X6_within _ O  x2 0 4 _ e6) [] rfl rfl rfl (oa_putS _ _ _ rfl) (fun _ h => h) ⟨rfl, rfl⟩ ⟨Nat.zero_le _, Nat.zero_le _⟩ ⟨Nat.le_of_ble_eq_true rfl, Nat.le_of_ble_eq_true rfl⟩ rfl (Nat.le_of_ble_eq_true rfl) rfl rfl dX6_were_14 ?_
    refine ww_if_eq (pc := 17) (tgt := 30) C dX6_were_17 (by decide) (fun c8 => ?_) (fun c8 => ?_)
    · have hf := oa_ifp c8 hf
      refine ww_iconst (pc := 30) C dX6_were_30 kc_m1 ?_
      obtain rfl := Option.some.inj hf
      exact ww_iret (pc := 31) C rfl dX6_were_31
    · have hf := oa_ifn c8 hf
      refine ww_iload_n (pc := 20) (i := 3) C 3 dX6_were_20 rfl rfl ?_
      refine ww_iconst (pc := 21) C dX6_were_21 kc_1 ?_
      refine ww_bipush (pc := 22) C dX6_were_22 kb_99 ?_
      obtain ⟨y9, e10, hf⟩ := oa_bind hf
      refine ww_callS (pc := 24) (As := [.int x3, .int 1, .int 99]) (rest := []) (wd := []) (ws' := wd_O O a B J) (rv := (some (.int y9))) C hY_X6_within hS_X6_within lk_X6_96 (m_X6_within _ O  x3 1 99 _ e10) [] rfl rfl rfl (oa_putS _ _ _ rfl) (fun _ h => h) ⟨rfl, rfl⟩ ⟨Nat.zero_le _, Nat.zero_le _⟩ ⟨Nat.le_of_ble_eq_true rfl, Nat.le_of_ble_eq_true rfl⟩ rfl (Nat.le_of_ble_eq_true rfl) rfl rfl dX6_were_24 ?_
      refine ww_if_ne (pc := 27) (tgt := 32) C dX6_were_27 (by decide) (fun c12 => ?_) (fun c12 => ?_)
      · have hf := oa_ifn c12 hf
        refine ww_aload_n (pc := 32) (i := 0) C 0 dX6_were_32 rfl rfl ?_
        refine ww_get (pc := 33) C fl_X6_16 0 rfl rfl dX6_were_33 ?_
        refine ww_aload_n (pc := 36) (i := 0) C 0 dX6_were_36 rfl rfl ?_
        refine ww_get (pc := 37) C fl_X6_10 0 rfl rfl dX6_were_37 ?_
        obtain ⟨V13, e14, hf⟩ := oa_bind hf
        obtain ⟨B16, e17, hf⟩ := oa_letE hf
        refine ww_callV (pc := 40) (As := [.ref (a 1)]) (rest := []) (wd := wd_VV O (fun i => a (i + 7)) (fun i => a (i + 1)) V13 (B 0)) (ws' := wd_O O a B16 J) (rv := none) C hY_X5_copyOf hV_X5_copyOf lk_X6_89 (m_X5_copyOf _ O (fun i => a (i + 7)) (fun i => a (i + 1)) (B 1) (B 0) _ e14) [7, 8, 9, 10, 11, 12, 1, 2, 3, 4, 5, 6] 7 rfl rfl rfl rfl rfl (by subst e17; rfl) (fun _ h => h) ⟨rfl, rfl⟩ ⟨Nat.zero_le _, Nat.zero_le _⟩ ⟨Nat.le_of_ble_eq_true rfl, Nat.le_of_ble_eq_true rfl⟩ rfl (Nat.le_of_ble_eq_true rfl) rfl rfl dX6_were_40 ?_
        refine ww_aload_n (pc := 43) (i := 0) C 0 dX6_were_43 rfl rfl ?_
        refine ww_get (pc := 44) C fl_X6_16 0 rfl rfl dX6_were_44 ?_
        refine ww_iload_n (pc := 47) (i := 3) C 3 dX6_were_47 rfl rfl ?_
        obtain ⟨y18, V19, e20, hf⟩ := oa_bind2 hf
        obtain ⟨B22, e23, hf⟩ := oa_letE hf
        refine ww_callV (pc := 48) (As := [.int x3]) (rest := []) (wd := wd_V O (fun i => a (i + 7)) V19) (ws' := wd_O O a B22 J) (rv := (some (.int y18))) C hY_X5_passWeeks hV_X5_passWeeks lk_X6_176 (m_X5_passWeeks _ O (fun i => a (i + 7)) (B16 1) x3 _ e20) [7, 8, 9, 10, 11, 12] 7 rfl rfl rfl rfl rfl (by subst e23; rfl) (fun _ h => h) ⟨rfl, rfl⟩ ⟨Nat.zero_le _, Nat.zero_le _⟩ ⟨Nat.le_of_ble_eq_true rfl, Nat.le_of_ble_eq_true rfl⟩ rfl (Nat.le_of_ble_eq_true rfl) rfl rfl dX6_were_48 ?_
        refine ww_pop (pc := 51) C dX6_were_51 rfl ?_
        refine ww_aload_n (pc := 52) (i := 0) C 0 dX6_were_52 rfl rfl ?_
        refine ww_get (pc := 53) C fl_X6_16 0 rfl rfl dX6_were_53 ?_
        refine ww_get (pc := 56) C fl_X6_141 7 rfl rfl dX6_were_56 ?_
        refine ww_iload_n (pc := 59) (i := 1) C 1 dX6_were_59 rfl rfl ?_
        obtain ⟨y24, e25, hf⟩ := oa_bind hf
        refine ww_iald (pc := 60) C 12 rfl e25 dX6_were_60 ?_
        refine ww_istore (pc := 61) (L' := [(0, .ref (a 0)), (1, .int x1), (2, .int x2), (3, .int x3), (4, .int y24)]) C [1, 2, 3, 4, 0] dX6_were_61 (Nat.le_of_ble_eq_true rfl) rfl ?_
        refine ww_aload_n (pc := 63) (i := 0) C 0 dX6_were_63 rfl rfl ?_
        refine ww_get (pc := 64) C fl_X6_16 0 rfl rfl dX6_were_64 ?_
        refine ww_aload_n (pc := 67) (i := 0) C 0 dX6_were_67 rfl rfl ?_
        refine ww_get (pc := 68) C fl_X6_10 0 rfl rfl dX6_were_68 ?_
        obtain ⟨V26, e27, hf⟩ := oa_bind hf
        obtain ⟨B29, e30, hf⟩ := oa_letE hf
        refine ww_callV (pc := 71) (As := [.ref (a 1)]) (rest := []) (wd := wd_VV O (fun i => a (i + 7)) (fun i => a (i + 1)) V26 (B22 0)) (ws' := wd_O O a B29 J) (rv := none) C hY_X5_copyOf hV_X5_copyOf lk_X6_89 (m_X5_copyOf _ O (fun i => a (i + 7)) (fun i => a (i + 1)) (B22 1) (B22 0) _ e27) [7, 8, 9, 10, 11, 12, 1, 2, 3, 4, 5, 6] 7 rfl rfl rfl rfl rfl (by subst e30; rfl) (fun _ h => h) ⟨rfl, rfl⟩ ⟨Nat.zero_le _, Nat.zero_le _⟩ ⟨Nat.le_of_ble_eq_true rfl, Nat.le_of_ble_eq_true rfl⟩ rfl (Nat.le_of_ble_eq_true rfl) rfl rfl dX6_were_71 ?_
        refine ww_aload_n (pc := 74) (i := 0) C 0 dX6_were_74 rfl rfl ?_
        refine ww_get (pc := 75) C fl_X6_16 0 rfl rfl dX6_were_75 ?_
        refine ww_iconst (pc := 78) C dX6_were_78 kc_0 ?_
        refine ww_iload_n (pc := 79) (i := 1) C 1 dX6_were_79 rfl rfl ?_
        refine ww_iload_n (pc := 80) (i := 2) C 2 dX6_were_80 rfl rfl ?_
        obtain ⟨V31, e32, hf⟩ := oa_bind hf
        obtain ⟨B34, e35, hf⟩ := oa_letE hf
        refine ww_callV (pc := 81) (As := [.int 0, .int x1, .int x2]) (rest := []) (wd := wd_V O (fun i => a (i + 7)) V31) (ws' := wd_O O a B34 J) (rv := none) C hY_X5_putTrait hV_X5_putTrait lk_X6_127 (m_X5_putTrait _ O (fun i => a (i + 7)) (B29 1) 0 x1 x2 _ e32) [7, 8, 9, 10, 11, 12] 7 rfl rfl rfl rfl rfl (by subst e35; rfl) (fun _ h => h) ⟨rfl, rfl⟩ ⟨Nat.zero_le _, Nat.zero_le _⟩ ⟨Nat.le_of_ble_eq_true rfl, Nat.le_of_ble_eq_true rfl⟩ rfl (Nat.le_of_ble_eq_true rfl) rfl rfl dX6_were_81 ?_
        refine ww_aload_n (pc := 84) (i := 0) C 0 dX6_were_84 rfl rfl ?_
        refine ww_get (pc := 85) C fl_X6_16 0 rfl rfl dX6_were_85 ?_
        refine ww_iload_n (pc := 88) (i := 3) C 3 dX6_were_88 rfl rfl ?_
        obtain ⟨y36, V37, e38, hf⟩ := oa_bind2 hf
        obtain ⟨B40, e41, hf⟩ := oa_letE hf
        refine ww_callV (pc := 89) (As := [.int x3]) (rest := []) (wd := wd_V O (fun i => a (i + 7)) V37) (ws' := wd_O O a B40 J) (rv := (some (.int y36))) C hY_X5_passWeeks hV_X5_passWeeks lk_X6_176 (m_X5_passWeeks _ O (fun i => a (i + 7)) (B34 1) x3 _ e38) [7, 8, 9, 10, 11, 12] 7 rfl rfl rfl rfl rfl (by subst e41; rfl) (fun _ h => h) ⟨rfl, rfl⟩ ⟨Nat.zero_le _, Nat.zero_le _⟩ ⟨Nat.le_of_ble_eq_true rfl, Nat.le_of_ble_eq_true rfl⟩ rfl (Nat.le_of_ble_eq_true rfl) rfl rfl dX6_were_89 ?_
        refine ww_pop (pc := 92) C dX6_were_92 rfl ?_
        refine ww_aload_n (pc := 93) (i := 0) C 0 dX6_were_93 rfl rfl ?_
        refine ww_get (pc := 94) C fl_X6_16 0 rfl rfl dX6_were_94 ?_
        refine ww_get (pc := 97) C fl_X6_141 7 rfl rfl dX6_were_97 ?_
        refine ww_iload_n (pc := 100) (i := 1) C 1 dX6_were_100 rfl rfl ?_
        obtain ⟨y42, e43, hf⟩ := oa_bind hf
        refine ww_iald (pc := 101) C 12 rfl e43 dX6_were_101 ?_
        refine ww_iload (pc := 102) (i := 4) C 4 dX6_were_102 rfl ?_
        refine ww_isub (pc := 104) C dX6_were_104 ?_
        refine ww_ldc (pc := 105) C cw_X6_209 dX6_were_105 ?_
        refine ww_iadd (pc := 107) C dX6_were_107 ?_
        obtain rfl := Option.some.inj hf
        exact ww_iret (pc := 108) C rfl dX6_were_108
      · have hf := oa_ifp c12 hf
        refine ww_iconst (pc := 30) C dX6_were_30 kc_m1 ?_
        obtain rfl := Option.some.inj hf
        exact ww_iret (pc := 31) C rfl dX6_were_31
theorem dX6_where_0 : decode cX6_where 0 = .ok (.iload_n 1, 1) := by decide +kernel
theorem dX6_where_1 : decode cX6_where 1 = .ok (.iconst 0, 1) := by decide +kernel
theorem dX6_where_2 : decode cX6_where 2 = .ok (.iconst 1, 1) := by decide +kernel
theorem dX6_where_3 : decode cX6_where 3 = .ok (.invokestatic 96, 3) := by decide +kernel
theorem dX6_where_6 : decode cX6_where 6 = .ok (.ifCond .ne 5, 3) := by decide +kernel
theorem dX6_where_9 : decode cX6_where 9 = .ok (.iconst (-1), 1) := by decide +kernel
theorem dX6_where_10 : decode cX6_where 10 = .ok (.ireturn, 1) := by decide +kernel
theorem dX6_where_11 : decode cX6_where 11 = .ok (.aload_n 0, 1) := by decide +kernel
theorem dX6_where_12 : decode cX6_where 12 = .ok (.getfield 10, 3) := by decide +kernel
theorem dX6_where_15 : decode cX6_where 15 = .ok (.invokevirtual 192, 3) := by decide +kernel
theorem dX6_where_18 : decode cX6_where 18 = .ok (.invokestatic 225, 3) := by decide +kernel
theorem dX6_where_21 : decode cX6_where 21 = .ok (.istore_n 2, 1) := by decide +kernel
theorem dX6_where_22 : decode cX6_where 22 = .ok (.bipush (-4), 2) := by decide +kernel
theorem dX6_where_24 : decode cX6_where 24 = .ok (.istore_n 3, 1) := by decide +kernel
theorem dX6_where_25 : decode cX6_where 25 = .ok (.iconst 0, 1) := by decide +kernel
theorem dX6_where_26 : decode cX6_where 26 = .ok (.istore 4, 2) := by decide +kernel
theorem dX6_where_28 : decode cX6_where 28 = .ok (.iconst 0, 1) := by decide +kernel
theorem dX6_where_29 : decode cX6_where 29 = .ok (.istore 5, 2) := by decide +kernel
theorem dX6_where_31 : decode cX6_where 31 = .ok (.iload 5, 2) := by decide +kernel
theorem dX6_where_33 : decode cX6_where 33 = .ok (.aload_n 0, 1) := by decide +kernel
theorem dX6_where_34 : decode cX6_where 34 = .ok (.getfield 10, 3) := by decide +kernel
theorem dX6_where_37 : decode cX6_where 37 = .ok (.getfield 210, 3) := by decide +kernel
theorem dX6_where_40 : decode cX6_where 40 = .ok (.if_icmp .ge 71, 3) := by decide +kernel
theorem dX6_where_43 : decode cX6_where 43 = .ok (.aload_n 0, 1) := by decide +kernel
theorem dX6_where_44 : decode cX6_where 44 = .ok (.getfield 10, 3) := by decide +kernel
theorem dX6_where_47 : decode cX6_where 47 = .ok (.iload 5, 2) := by decide +kernel
theorem dX6_where_49 : decode cX6_where 49 = .ok (.invokevirtual 111, 3) := by decide +kernel
theorem dX6_where_52 : decode cX6_where 52 = .ok (.ifCond .ne 53, 3) := by decide +kernel
theorem dX6_where_55 : decode cX6_where 55 = .ok (.aload_n 0, 1) := by decide +kernel
theorem dX6_where_56 : decode cX6_where 56 = .ok (.getfield 16, 3) := by decide +kernel
theorem dX6_where_59 : decode cX6_where 59 = .ok (.aload_n 0, 1) := by decide +kernel
theorem dX6_where_60 : decode cX6_where 60 = .ok (.getfield 10, 3) := by decide +kernel
theorem dX6_where_63 : decode cX6_where 63 = .ok (.invokevirtual 89, 3) := by decide +kernel
theorem dX6_where_66 : decode cX6_where 66 = .ok (.aload_n 0, 1) := by decide +kernel
theorem dX6_where_67 : decode cX6_where 67 = .ok (.getfield 16, 3) := by decide +kernel
theorem dX6_where_70 : decode cX6_where 70 = .ok (.getfield 108, 3) := by decide +kernel
theorem dX6_where_73 : decode cX6_where 73 = .ok (.iload 5, 2) := by decide +kernel
theorem dX6_where_75 : decode cX6_where 75 = .ok (.iconst 0, 1) := by decide +kernel
theorem dX6_where_76 : decode cX6_where 76 = .ok (.iastore, 1) := by decide +kernel
theorem dX6_where_77 : decode cX6_where 77 = .ok (.iload_n 2, 1) := by decide +kernel
theorem dX6_where_78 : decode cX6_where 78 = .ok (.aload_n 0, 1) := by decide +kernel
theorem dX6_where_79 : decode cX6_where 79 = .ok (.getfield 16, 3) := by decide +kernel
theorem dX6_where_82 : decode cX6_where 82 = .ok (.invokevirtual 192, 3) := by decide +kernel
theorem dX6_where_85 : decode cX6_where 85 = .ok (.invokestatic 225, 3) := by decide +kernel
theorem dX6_where_88 : decode cX6_where 88 = .ok (.isub, 1) := by decide +kernel
theorem dX6_where_89 : decode cX6_where 89 = .ok (.istore 6, 2) := by decide +kernel
theorem dX6_where_91 : decode cX6_where 91 = .ok (.iload 6, 2) := by decide +kernel
theorem dX6_where_93 : decode cX6_where 93 = .ok (.iload 4, 2) := by decide +kernel
theorem dX6_where_95 : decode cX6_where 95 = .ok (.if_icmp .le 10, 3) := by decide +kernel
theorem dX6_where_98 : decode cX6_where 98 = .ok (.iload 6, 2) := by decide +kernel
theorem dX6_where_100 : decode cX6_where 100 = .ok (.istore 4, 2) := by decide +kernel
theorem dX6_where_102 : decode cX6_where 102 = .ok (.iload 5, 2) := by decide +kernel
theorem dX6_where_104 : decode cX6_where 104 = .ok (.istore_n 3, 1) := by decide +kernel
theorem dX6_where_105 : decode cX6_where 105 = .ok (.iinc 5 1, 3) := by decide +kernel
theorem dX6_where_108 : decode cX6_where 108 = .ok (.goto (-77), 3) := by decide +kernel
theorem dX6_where_111 : decode cX6_where 111 = .ok (.iload_n 1, 1) := by decide +kernel
theorem dX6_where_112 : decode cX6_where 112 = .ok (.ifCond .eq 9, 3) := by decide +kernel
theorem dX6_where_115 : decode cX6_where 115 = .ok (.iload_n 3, 1) := by decide +kernel
theorem dX6_where_116 : decode cX6_where 116 = .ok (.bipush (-4), 2) := by decide +kernel
theorem dX6_where_118 : decode cX6_where 118 = .ok (.if_icmp .ne 7, 3) := by decide +kernel
theorem dX6_where_121 : decode cX6_where 121 = .ok (.iload_n 3, 1) := by decide +kernel
theorem dX6_where_122 : decode cX6_where 122 = .ok (.goto 5, 3) := by decide +kernel
theorem dX6_where_125 : decode cX6_where 125 = .ok (.iload 4, 2) := by decide +kernel
theorem dX6_where_127 : decode cX6_where 127 = .ok (.ireturn, 1) := by decide +kernel
abbrev rm_X6_where : Room := { frames := 6, cells := 0, slots := 0, locals := 136 }
theorem t_b_X6_where_31 {G : oa_G} {O : oa_O} {A : Nat → Prop} {a : Nat → Nat} {res : Int32 × oa_I3} (C : oa_C G cX6_where 7 RX6 (some .int) rm_X6_where O A) (J : oa_J2) (x1 : Int32) (x2 : Int32)   (k31 : oa_I3 → Int32 → Int32 → Int32 → Option (Int32 × oa_I3))  (hk31 : ∀ (b_B : oa_I3) (b_x3 : Int32) (b_x4 : Int32) (b_x5 : Int32), k31 b_B b_x3 b_x4 b_x5 = some res → ww G 7 O A (oa_Q G O A (0, 0) (some (.int res.1)) (fun W1 => W1 = wd_O O a res.2 J)) (0, 0) 31 [(0, .ref (a 0)), (1, .int x1), (2, .int x2), (3, .int b_x3), (4, .int b_x4), (5, .int b_x5)] [] (wd_O O a b_B J)) (B : oa_I3) (x3 : Int32) (x4 : Int32) (x5 : Int32) (hf : b_X6_where_31 J x1 x2 k31 B x3 x4 x5 = some res) : ww G 7 O A (oa_Q G O A (0, 0) (some (.int res.1)) (fun W1 => W1 = wd_O O a res.2 J)) (0, 0) 31 [(0, .ref (a 0)), (1, .int x1), (2, .int x2), (3, .int x3), (4, .int x4), (5, .int x5)] [] (wd_O O a B J) := by
  delta b_X6_where_31 at hf
  refine ww_iload (pc := 31) (i := 5) C 5 dX6_where_31 rfl ?_
  refine ww_aload_n (pc := 33) (i := 0) C 0 dX6_where_33 rfl rfl ?_
  refine ww_get (pc := 34) C fl_X6_10 0 rfl rfl dX6_where_34 ?_
  refine ww_get (pc := 37) C fl_X6_210 1 rfl rfl dX6_where_37 ?_
  refine ww_icmp_ge (pc := 40) (tgt := 111) C dX6_where_40 (by decide) (fun c11 => ?_) (fun c11 => ?_)
  · have hf := oa_ifp c11 hf
    refine ww_iload_n (pc := 111) (i := 1) C 1 dX6_where_111 rfl rfl ?_
    refine ww_if_eq (pc := 112) (tgt := 121) C dX6_where_112 (by decide) (fun c12 => ?_) (fun c12 => ?_)
    · have hf := oa_ifp c12 hf
      refine ww_iload_n (pc := 121) (i := 3) C 3 dX6_where_121 rfl rfl ?_
      refine ww_goto (pc := 122) (tgt := 127) C dX6_where_122 (by decide) ?_
      obtain rfl := Option.some.inj hf
      exact ww_iret (pc := 127) C rfl dX6_where_127
    · have hf := oa_ifn c12 hf
      refine ww_iload_n (pc := 115) (i := 3) C 3 dX6_where_115 rfl rfl ?_
      refine ww_bipush (pc := 116) C dX6_where_116 kb_m4 ?_
      refine ww_icmp_ne (pc := 118) (tgt := 125) C dX6_where_118 (by decide) (fun c13 => ?_) (fun c13 => ?_)
      · have hf := oa_ifn c13 hf
        refine ww_iload (pc := 125) (i := 4) C 4 dX6_where_125 rfl ?_
        obtain rfl := Option.some.inj hf
        exact ww_iret (pc := 127) C rfl dX6_where_127
      · have hf := oa_ifp c13 hf
        refine ww_iload_n (pc := 121) (i := 3) C 3 dX6_where_121 rfl rfl ?_
        refine ww_goto (pc := 122) (tgt := 127) C dX6_where_122 (by decide) ?_
        obtain rfl := Option.some.inj hf
        exact ww_iret (pc := 127) C rfl dX6_where_127
  · have hf := oa_ifn c11 hf
    refine ww_aload_n (pc := 43) (i := 0) C 0 dX6_where_43 rfl rfl ?_
    refine ww_get (pc := 44) C fl_X6_10 0 rfl rfl dX6_where_44 ?_
    refine ww_iload (pc := 47) (i := 5) C 5 dX6_where_47 rfl ?_
    obtain ⟨y14, e15, hf⟩ := oa_bind hf
    refine ww_callV (pc := 49) (As := [.int x5]) (rest := []) (wd := wd_V O (fun i => a (i + 1)) (B 0)) (ws' := wd_O O a B J) (rv := (some (.int y14))) C hY_X5_isFree hV_X5_isFree lk_X6_111 (m_X5_isFree _ O (fun i => a (i + 1)) (B 0) x5 _ e15) [1, 2, 3, 4, 5, 6] 1 rfl rfl rfl rfl rfl (oa_putS _ _ _ rfl) (fun _ h => h) ⟨rfl, rfl⟩ ⟨Nat.zero_le _, Nat.zero_le _⟩ ⟨Nat.le_of_ble_eq_true rfl, Nat.le_of_ble_eq_true rfl⟩ rfl (Nat.le_of_ble_eq_true rfl) rfl rfl dX6_where_49 ?_
    refine ww_if_ne (pc := 52) (tgt := 105) C dX6_where_52 (by decide) (fun c17 => ?_) (fun c17 => ?_)
    · have hf := oa_ifn c17 hf
      refine ww_iinc (pc := 105) (v := (x5 + 1)) (L' := [(0, .ref (a 0)), (1, .int x1), (2, .int x2), (3, .int x3), (4, .int x4), (5, .int (x5 + 1))]) C 5 [1, 2, 3, 4, 5, 0] dX6_where_105 rfl (ki_1 _) (Nat.le_of_ble_eq_true rfl) rfl ?_
      refine ww_goto (pc := 108) (tgt := 31) C dX6_where_108 (by decide) ?_
      exact hk31 B x3 x4 (x5 + 1) hf
    · have hf := oa_ifp c17 hf
      refine ww_aload_n (pc := 55) (i := 0) C 0 dX6_where_55 rfl rfl ?_
      refine ww_get (pc := 56) C fl_X6_16 0 rfl rfl dX6_where_56 ?_
      refine ww_aload_n (pc := 59) (i := 0) C 0 dX6_where_59 rfl rfl ?_
      refine ww_get (pc := 60) C fl_X6_10 0 rfl rfl dX6_where_60 ?_
      obtain ⟨V18, e19, hf⟩ := oa_bind hf
      obtain ⟨B21, e22, hf⟩ := oa_letE hf
      refine ww_callV (pc := 63) (As := [.ref (a 1)]) (rest := []) (wd := wd_VV O (fun i => a (i + 7)) (fun i => a (i + 1)) V18 (B 0)) (ws' := wd_O O a B21 J) (rv := none) C hY_X5_copyOf hV_X5_copyOf lk_X6_89 (m_X5_copyOf _ O (fun i => a (i + 7)) (fun i => a (i + 1)) (B 1) (B 0) _ e19) [7, 8, 9, 10, 11, 12, 1, 2, 3, 4, 5, 6] 7 rfl rfl rfl rfl rfl (by subst e22; rfl) (fun _ h => h) ⟨rfl, rfl⟩ ⟨Nat.zero_le _, Nat.zero_le _⟩ ⟨Nat.le_of_ble_eq_true rfl, Nat.le_of_ble_eq_true rfl⟩ rfl (Nat.le_of_ble_eq_true rfl) rfl rfl dX6_where_63 ?_
      refine ww_aload_n (pc := 66) (i := 0) C 0 dX6_where_66 rfl rfl ?_
      refine ww_get (pc := 67) C fl_X6_16 0 rfl rfl dX6_where_67 ?_
      refine ww_get (pc := 70) C fl_X6_108 7 rfl rfl dX6_where_70 ?_
      refine ww_iload (pc := 73) (i := 5) C 5 dX6_where_73 rfl ?_
      refine ww_iconst (pc := 75) C dX6_where_75 kc_0 ?_
      obtain ⟨g23, e24, hf⟩ := oa_bind hf
      obtain ⟨B25, e26, hf⟩ := oa_letE hf
      refine ww_iast (pc := 76) C (fun Z => wd_O O a Z J) 10 rfl e24 e26 rfl dX6_where_76 ?_
      refine ww_iload_n (pc := 77) (i := 2) C 2 dX6_where_77 rfl rfl ?_
      refine ww_aload_n (pc := 78) (i := 0) C 0 dX6_where_78 rfl rfl ?_
      refine ww_get (pc := 79) C fl_X6_16 0 rfl rfl dX6_where_79 ?_
      obtain ⟨y27, e28, hf⟩ := oa_bind hf
      refine ww_callV (pc := 82) (As := []) (rest := [.int x2]) (wd := wd_V O (fun i => a (i + 7)) (B25 1)) (ws' := wd_O O a B25 J) (rv := (some (.long y27))) C hY_X5_openWrongs hV_X5_openWrongs lk_X6_192 (m_X5_openWrongs _ O (fun i => a (i + 7)) (B25 1) _ e28) [7, 8, 9, 10, 11, 12] 7 rfl rfl rfl rfl rfl (oa_putS _ _ _ rfl) (fun _ h => h) ⟨rfl, rfl⟩ ⟨Nat.zero_le _, Nat.zero_le _⟩ ⟨Nat.le_of_ble_eq_true rfl, Nat.le_of_ble_eq_true rfl⟩ rfl (Nat.le_of_ble_eq_true rfl) rfl rfl dX6_where_82 ?_
      obtain ⟨y30, e31, hf⟩ := oa_bind hf
      refine ww_callS (pc := 85) (As := [.long y27]) (rest := [.int x2]) (wd := []) (ws' := wd_O O a B25 J) (rv := (some (.int y30))) C hY_J13_bitCount_95d88 hS_J13_bitCount_95d88 lk_X6_225 (m_J13_bitCount_95d88 _ O  y27 _ e31) [] rfl rfl rfl (oa_putS _ _ _ rfl) (fun _ h => h) ⟨rfl, rfl⟩ ⟨Nat.zero_le _, Nat.zero_le _⟩ ⟨Nat.le_of_ble_eq_true rfl, Nat.le_of_ble_eq_true rfl⟩ rfl (Nat.le_of_ble_eq_true rfl) rfl rfl dX6_where_85 ?_
      refine ww_isub (pc := 88) C dX6_where_88 ?_
      obtain ⟨y33, e34, hf⟩ := oa_letE hf
      refine ww_topi C e34 ?_
      refine ww_istore (pc := 89) (L' := [(0, .ref (a 0)), (1, .int x1), (2, .int x2), (3, .int x3), (4, .int x4), (5, .int x5), (6, .int y33)]) C [1, 2, 3, 4, 5, 6, 0] dX6_where_89 (Nat.le_of_ble_eq_true rfl) rfl ?_
      refine ww_iload (pc := 91) (i := 6) C 6 dX6_where_91 rfl ?_
      refine ww_iload (pc := 93) (i := 4) C 4 dX6_where_93 rfl ?_
      refine ww_icmp_le (pc := 95) (tgt := 105) C dX6_where_95 (by decide) (fun c35 => ?_) (fun c35 => ?_)
      · have hf := oa_ifp c35 hf
        refine ww_iinc (pc := 105) (v := (x5 + 1)) (L' := [(0, .ref (a 0)), (1, .int x1), (2, .int x2), (3, .int x3), (4, .int x4), (5, .int (x5 + 1)), (6, .int y33)]) C 5 [1, 2, 3, 4, 5, 0, 6] dX6_where_105 rfl (ki_1 _) (Nat.le_of_ble_eq_true rfl) rfl ?_
        refine ww_goto (pc := 108) (tgt := 31) C dX6_where_108 (by decide) ?_
        refine ww_sub C [0, 1, 2, 3, 4, 5] rfl ?_
        exact hk31 B25 x3 x4 (x5 + 1) hf
      · have hf := oa_ifn c35 hf
        refine ww_iload (pc := 98) (i := 6) C 6 dX6_where_98 rfl ?_
        refine ww_istore (pc := 100) (L' := [(0, .ref (a 0)), (1, .int x1), (2, .int x2), (3, .int x3), (4, .int y33), (5, .int x5), (6, .int y33)]) C [1, 2, 3, 4, 0, 5, 6] dX6_where_100 (Nat.le_of_ble_eq_true rfl) rfl ?_
        refine ww_iload (pc := 102) (i := 5) C 5 dX6_where_102 rfl ?_
        refine ww_istore_n (pc := 104) (L' := [(0, .ref (a 0)), (1, .int x1), (2, .int x2), (3, .int x5), (4, .int y33), (5, .int x5), (6, .int y33)]) C [1, 2, 3, 0, 4, 5, 6] dX6_where_104 rfl (Nat.le_of_ble_eq_true rfl) rfl ?_
        refine ww_iinc (pc := 105) (v := (x5 + 1)) (L' := [(0, .ref (a 0)), (1, .int x1), (2, .int x2), (3, .int x5), (4, .int y33), (5, .int (x5 + 1)), (6, .int y33)]) C 5 [1, 2, 3, 4, 5, 0, 6] dX6_where_105 rfl (ki_1 _) (Nat.le_of_ble_eq_true rfl) rfl ?_
        refine ww_goto (pc := 108) (tgt := 31) C dX6_where_108 (by decide) ?_
        refine ww_sub C [0, 1, 2, 3, 4, 5] rfl ?_
        exact hk31 B25 x5 y33 (x5 + 1) hf
theorem t_l_X6_where_31 {G : oa_G} {O : oa_O} {A : Nat → Prop} {a : Nat → Nat} {res : Int32 × oa_I3} (C : oa_C G cX6_where 7 RX6 (some .int) rm_X6_where O A) (J : oa_J2) (x1 : Int32) (x2 : Int32)   : ∀ (n : Nat) (B : oa_I3) (x3 : Int32) (x4 : Int32) (x5 : Int32), l_X6_where_31 J x1 x2 n B x3 x4 x5 = some res → ww G 7 O A (oa_Q G O A (0, 0) (some (.int res.1)) (fun W1 => W1 = wd_O O a res.2 J)) (0, 0) 31 [(0, .ref (a 0)), (1, .int x1), (2, .int x2), (3, .int x3), (4, .int x4), (5, .int x5)] [] (wd_O O a B J) := by
  intro n
  induction n with
  | zero => intro B x3 x4 x5 hf; exact absurd (show (none : Option (Int32 × oa_I3)) = some res from hf) (fun h => nomatch h)
  | succ n ih =>
    intro B x3 x4 x5 hf
    exact t_b_X6_where_31 C J x1 x2 (fun B x3 x4 x5 => l_X6_where_31 J x1 x2 n B x3 x4 x5)  (fun B x3 x4 x5 h => ih B x3 x4 x5 h) B x3 x4 x5 hf
theorem m_X6_where (l : Launch) (O : oa_O) (a : Nat → Nat) (B : oa_I3) (J : oa_J2) (x1 : Int32) (res : Int32 × oa_I3) (hf : f_X6_where B J x1 = some res) : oa_M l yX6_where cX6_where 7 (some .int) rm_X6_where O [.ref (a 0), .int x1] (wd_O O a B J) (some (.int res.1)) (fun W1 => W1 = wd_O O a res.2 J) := by
  refine oa_Mof (by decide) (Nat.le_of_ble_eq_true rfl) (fun G A hl C => ?_)
  subst hl
  have C : oa_C G cX6_where 7 RX6 (some .int) rm_X6_where O A := C
  have hf : f_X6_where B J x1 = some res := hf
  delta f_X6_where at hf
  show ww G 7 O A (oa_Q G O A (0, 0) (some (.int res.1)) (fun W1 => W1 = wd_O O a res.2 J)) (0, 0) 0 [(0, .ref (a 0)), (1, .int x1)] [] (wd_O O a B J)
  refine ww_iload_n (pc := 0) (i := 1) C 1 dX6_where_0 rfl rfl ?_
  refine ww_iconst (pc := 1) C dX6_where_1 kc_0 ?_
  refine ww_iconst (pc := 2) C dX6_where_2 kc_1 ?_
  obtain ⟨y1, e2, hf⟩ := oa_bind hf
  refine ww_callS (pc := 3) (As := [.int x1, .int 0, .int 1]) (rest := []) (wd := []) (ws' := wd_O O a B J) (rv := (some (.int y1))) C hY_X6_within hS_X6_within lk_X6_96 (m_X6_within _ O  x1 0 1 _ e2) [] rfl rfl rfl (oa_putS _ _ _ rfl) (fun _ h => h) ⟨rfl, rfl⟩ ⟨Nat.zero_le _, Nat.zero_le _⟩ ⟨Nat.le_of_ble_eq_true rfl, Nat.le_of_ble_eq_true rfl⟩ rfl (Nat.le_of_ble_eq_true rfl) rfl rfl dX6_where_3 ?_
  refine ww_if_ne (pc := 6) (tgt := 11) C dX6_where_6 (by decide) (fun c4 => ?_) (fun c4 => ?_)
  · have hf := oa_ifn c4 hf
    refine ww_aload_n (pc := 11) (i := 0) C 0 dX6_where_11 rfl rfl ?_
    refine ww_get (pc := 12) C fl_X6_10 0 rfl rfl dX6_where_12 ?_
    obtain ⟨y5, e6, hf⟩ := oa_bind hf
    refine ww_callV (pc := 15) (As := []) (rest := []) (wd := wd_V O (fun i => a (i + 1)) (B 0)) (ws' := wd_O O a B J) (rv := (some (.long y5))) C hY_X5_openWrongs hV_X5_openWrongs lk_X6_192 (m_X5_openWrongs _ O (fun i => a (i + 1)) (B 0) _ e6) [1, 2, 3, 4, 5, 6] 1 rfl rfl rfl rfl rfl (oa_putS _ _ _ rfl) (fun _ h => h) ⟨rfl, rfl⟩ ⟨Nat.zero_le _, Nat.zero_le _⟩ ⟨Nat.le_of_ble_eq_true rfl, Nat.le_of_ble_eq_true rfl⟩ rfl (Nat.le_of_ble_eq_true rfl) rfl rfl dX6_where_15 ?_
    obtain ⟨y8, e9, hf⟩ := oa_bind hf
    refine ww_callS (pc := 18) (As := [.long y5]) (rest := []) (wd := []) (ws' := wd_O O a B J) (rv := (some (.int y8))) C hY_J13_bitCount_95d88 hS_J13_bitCount_95d88 lk_X6_225 (m_J13_bitCount_95d88 _ O  y5 _ e9) [] rfl rfl rfl (oa_putS _ _ _ rfl) (fun _ h => h) ⟨rfl, rfl⟩ ⟨Nat.zero_le _, Nat.zero_le _⟩ ⟨Nat.le_of_ble_eq_true rfl, Nat.le_of_ble_eq_true rfl⟩ rfl (Nat.le_of_ble_eq_true rfl) rfl rfl dX6_where_18 ?_
    refine ww_istore_n (pc := 21) (L' := [(0, .ref (a 0)), (1, .int x1), (2, .int y8)]) C [1, 2, 0] dX6_where_21 rfl (Nat.le_of_ble_eq_true rfl) rfl ?_
    refine ww_bipush (pc := 22) C dX6_where_22 kb_m4 ?_
    refine ww_istore_n (pc := 24) (L' := [(0, .ref (a 0)), (1, .int x1), (2, .int y8), (3, .int (-4))]) C [1, 2, 3, 0] dX6_where_24 rfl (Nat.le_of_ble_eq_true rfl) rfl ?_
    refine ww_iconst (pc := 25) C dX6_where_25 kc_0 ?_
    refine ww_istore (pc := 26) (L' := [(0, .ref (a 0)), (1, .int x1), (2, .int y8), (3, .int (-4)), (4, .int 0)]) C [1, 2, 3, 4, 0] dX6_where_26 (Nat.le_of_ble_eq_true rfl) rfl ?_
    refine ww_iconst (pc := 28) C dX6_where_28 kc_0 ?_
    refine ww_istore (pc := 29) (L' := [(0, .ref (a 0)), (1, .int x1), (2, .int y8), (3, .int (-4)), (4, .int 0), (5, .int 0)]) C [1, 2, 3, 4, 5, 0] dX6_where_29 (Nat.le_of_ble_eq_true rfl) rfl ?_
    exact t_l_X6_where_31 C J x1 y8   oa_fu B (-4) 0 0 hf
  · have hf := oa_ifp c4 hf
    refine ww_iconst (pc := 9) C dX6_where_9 kc_m1 ?_
    obtain rfl := Option.some.inj hf
    exact ww_iret (pc := 10) C rfl dX6_where_10
theorem dX6_whom_0 : decode cX6_whom 0 = .ok (.aload_n 0, 1) := by decide +kernel
theorem dX6_whom_1 : decode cX6_whom 1 = .ok (.getfield 10, 3) := by decide +kernel
theorem dX6_whom_4 : decode cX6_whom 4 = .ok (.iload_n 1, 1) := by decide +kernel
theorem dX6_whom_5 : decode cX6_whom 5 = .ok (.invokevirtual 104, 3) := by decide +kernel
theorem dX6_whom_8 : decode cX6_whom 8 = .ok (.ifCond .eq 22, 3) := by decide +kernel
theorem dX6_whom_11 : decode cX6_whom 11 = .ok (.aload_n 0, 1) := by decide +kernel
theorem dX6_whom_12 : decode cX6_whom 12 = .ok (.getfield 10, 3) := by decide +kernel
theorem dX6_whom_15 : decode cX6_whom 15 = .ok (.iload_n 1, 1) := by decide +kernel
theorem dX6_whom_16 : decode cX6_whom 16 = .ok (.aload_n 0, 1) := by decide +kernel
theorem dX6_whom_17 : decode cX6_whom 17 = .ok (.getfield 10, 3) := by decide +kernel
theorem dX6_whom_20 : decode cX6_whom 20 = .ok (.iload_n 1, 1) := by decide +kernel
theorem dX6_whom_21 : decode cX6_whom 21 = .ok (.invokevirtual 164, 3) := by decide +kernel
theorem dX6_whom_24 : decode cX6_whom 24 = .ok (.invokevirtual 170, 3) := by decide +kernel
theorem dX6_whom_27 : decode cX6_whom 27 = .ok (.goto 4, 3) := by decide +kernel
theorem dX6_whom_30 : decode cX6_whom 30 = .ok (.iconst (-1), 1) := by decide +kernel
theorem dX6_whom_31 : decode cX6_whom 31 = .ok (.ireturn, 1) := by decide +kernel
abbrev rm_X6_whom : Room := { frames := 5, cells := 0, slots := 0, locals := 115 }
theorem m_X6_whom (l : Launch) (O : oa_O) (a : Nat → Nat) (B : oa_I3) (J : oa_J2) (x1 : Int32) (res : Int32) (hf : f_X6_whom B J x1 = some res) : oa_M l yX6_whom cX6_whom 2 (some .int) rm_X6_whom O [.ref (a 0), .int x1] (wd_O O a B J) (some (.int res)) (fun W1 => W1 = wd_O O a B J) := by
  refine oa_Mof (by decide) (Nat.le_of_ble_eq_true rfl) (fun G A hl C => ?_)
  subst hl
  have C : oa_C G cX6_whom 2 RX6 (some .int) rm_X6_whom O A := C
  have hf : f_X6_whom B J x1 = some res := hf
  delta f_X6_whom at hf
  show ww G 2 O A (oa_Q G O A (0, 0) (some (.int res)) (fun W1 => W1 = wd_O O a B J)) (0, 0) 0 [(0, .ref (a 0)), (1, .int x1)] [] (wd_O O a B J)
  refine ww_aload_n (pc := 0) (i := 0) C 0 dX6_whom_0 rfl rfl ?_
  refine ww_get (pc := 1) C fl_X6_10 0 rfl rfl dX6_whom_1 ?_
  refine ww_iload_n (pc := 4) (i := 1) C 1 dX6_whom_4 rfl rfl ?_
  obtain ⟨y1, e2, hf⟩ := oa_bind hf
  refine ww_callV (pc := 5) (As := [.int x1]) (rest := []) (wd := wd_V O (fun i => a (i + 1)) (B 0)) (ws' := wd_O O a B J) (rv := (some (.int y1))) C hY_X5_has hV_X5_has lk_X6_104 (m_X5_has _ O (fun i => a (i + 1)) (B 0) x1 _ e2) [1, 2, 3, 4, 5, 6] 1 rfl rfl rfl rfl rfl (oa_putS _ _ _ rfl) (fun _ h => h) ⟨rfl, rfl⟩ ⟨Nat.zero_le _, Nat.zero_le _⟩ ⟨Nat.le_of_ble_eq_true rfl, Nat.le_of_ble_eq_true rfl⟩ rfl (Nat.le_of_ble_eq_true rfl) rfl rfl dX6_whom_5 ?_
  refine ww_if_eq (pc := 8) (tgt := 30) C dX6_whom_8 (by decide) (fun c4 => ?_) (fun c4 => ?_)
  · have hf := oa_ifp c4 hf
    refine ww_iconst (pc := 30) C dX6_whom_30 kc_m1 ?_
    obtain rfl := Option.some.inj hf
    exact ww_iret (pc := 31) C rfl dX6_whom_31
  · have hf := oa_ifn c4 hf
    refine ww_aload_n (pc := 11) (i := 0) C 0 dX6_whom_11 rfl rfl ?_
    refine ww_get (pc := 12) C fl_X6_10 0 rfl rfl dX6_whom_12 ?_
    refine ww_iload_n (pc := 15) (i := 1) C 1 dX6_whom_15 rfl rfl ?_
    refine ww_aload_n (pc := 16) (i := 0) C 0 dX6_whom_16 rfl rfl ?_
    refine ww_get (pc := 17) C fl_X6_10 0 rfl rfl dX6_whom_17 ?_
    refine ww_iload_n (pc := 20) (i := 1) C 1 dX6_whom_20 rfl rfl ?_
    obtain ⟨y5, e6, hf⟩ := oa_bind hf
    refine ww_callV (pc := 21) (As := [.int x1]) (rest := [.int x1, .ref (a 1)]) (wd := wd_V O (fun i => a (i + 1)) (B 0)) (ws' := wd_O O a B J) (rv := (some (.int y5))) C hY_X5_ableAsSeen hV_X5_ableAsSeen lk_X6_164 (m_X5_ableAsSeen _ O (fun i => a (i + 1)) (B 0) x1 _ e6) [1, 2, 3, 4, 5, 6] 1 rfl rfl rfl rfl rfl (oa_putS _ _ _ rfl) (fun _ h => h) ⟨rfl, rfl⟩ ⟨Nat.zero_le _, Nat.zero_le _⟩ ⟨Nat.le_of_ble_eq_true rfl, Nat.le_of_ble_eq_true rfl⟩ rfl (Nat.le_of_ble_eq_true rfl) rfl rfl dX6_whom_21 ?_
    obtain ⟨y8, e9, hf⟩ := oa_bind hf
    refine ww_callV (pc := 24) (As := [.int x1, .int y5]) (rest := []) (wd := wd_V O (fun i => a (i + 1)) (B 0)) (ws' := wd_O O a B J) (rv := (some (.int y8))) C hY_X5_choice hV_X5_choice lk_X6_170 (m_X5_choice _ O (fun i => a (i + 1)) (B 0) x1 y5 _ e9) [1, 2, 3, 4, 5, 6] 1 rfl rfl rfl rfl rfl (oa_putS _ _ _ rfl) (fun _ h => h) ⟨rfl, rfl⟩ ⟨Nat.zero_le _, Nat.zero_le _⟩ ⟨Nat.le_of_ble_eq_true rfl, Nat.le_of_ble_eq_true rfl⟩ rfl (Nat.le_of_ble_eq_true rfl) rfl rfl dX6_whom_24 ?_
    refine ww_goto (pc := 27) (tgt := 31) C dX6_whom_27 (by decide) ?_
    obtain rfl := Option.some.inj hf
    exact ww_iret (pc := 31) C rfl dX6_whom_31
theorem dX6_worth_0 : decode cX6_worth 0 = .ok (.aload_n 0, 1) := by decide +kernel
theorem dX6_worth_1 : decode cX6_worth 1 = .ok (.getfield 10, 3) := by decide +kernel
theorem dX6_worth_4 : decode cX6_worth 4 = .ok (.iload_n 1, 1) := by decide +kernel
theorem dX6_worth_5 : decode cX6_worth 5 = .ok (.iload_n 2, 1) := by decide +kernel
theorem dX6_worth_6 : decode cX6_worth 6 = .ok (.invokevirtual 131, 3) := by decide +kernel
theorem dX6_worth_9 : decode cX6_worth 9 = .ok (.ifCond .eq 12, 3) := by decide +kernel
theorem dX6_worth_12 : decode cX6_worth 12 = .ok (.iload_n 3, 1) := by decide +kernel
theorem dX6_worth_13 : decode cX6_worth 13 = .ok (.iconst 0, 1) := by decide +kernel
theorem dX6_worth_14 : decode cX6_worth 14 = .ok (.iconst 1, 1) := by decide +kernel
theorem dX6_worth_15 : decode cX6_worth 15 = .ok (.invokestatic 96, 3) := by decide +kernel
theorem dX6_worth_18 : decode cX6_worth 18 = .ok (.ifCond .ne 6, 3) := by decide +kernel
theorem dX6_worth_21 : decode cX6_worth 21 = .ok (.ldc 144, 2) := by decide +kernel
theorem dX6_worth_23 : decode cX6_worth 23 = .ok (.ireturn, 1) := by decide +kernel
theorem dX6_worth_24 : decode cX6_worth 24 = .ok (.aload_n 0, 1) := by decide +kernel
theorem dX6_worth_25 : decode cX6_worth 25 = .ok (.getfield 10, 3) := by decide +kernel
theorem dX6_worth_28 : decode cX6_worth 28 = .ok (.iload_n 2, 1) := by decide +kernel
theorem dX6_worth_29 : decode cX6_worth 29 = .ok (.iload_n 3, 1) := by decide +kernel
theorem dX6_worth_30 : decode cX6_worth 30 = .ok (.ifCond .ne 14, 3) := by decide +kernel
theorem dX6_worth_33 : decode cX6_worth 33 = .ok (.aload_n 0, 1) := by decide +kernel
theorem dX6_worth_34 : decode cX6_worth 34 = .ok (.getfield 10, 3) := by decide +kernel
theorem dX6_worth_37 : decode cX6_worth 37 = .ok (.iload_n 1, 1) := by decide +kernel
theorem dX6_worth_38 : decode cX6_worth 38 = .ok (.invokevirtual 164, 3) := by decide +kernel
theorem dX6_worth_41 : decode cX6_worth 41 = .ok (.goto 11, 3) := by decide +kernel
theorem dX6_worth_44 : decode cX6_worth 44 = .ok (.aload_n 0, 1) := by decide +kernel
theorem dX6_worth_45 : decode cX6_worth 45 = .ok (.getfield 10, 3) := by decide +kernel
theorem dX6_worth_48 : decode cX6_worth 48 = .ok (.iload_n 1, 1) := by decide +kernel
theorem dX6_worth_49 : decode cX6_worth 49 = .ok (.invokevirtual 158, 3) := by decide +kernel
theorem dX6_worth_52 : decode cX6_worth 52 = .ok (.invokevirtual 167, 3) := by decide +kernel
theorem dX6_worth_55 : decode cX6_worth 55 = .ok (.ireturn, 1) := by decide +kernel
abbrev rm_X6_worth : Room := { frames := 4, cells := 0, slots := 0, locals := 89 }
theorem t_b_X6_worth_52 {G : oa_G} {O : oa_O} {A : Nat → Prop} {a : Nat → Nat} {res : Int32} (C : oa_C G cX6_worth 4 RX6 (some .int) rm_X6_worth O A) (B : oa_I3) (J : oa_J2) (x1 : Int32) (x2 : Int32) (x3 : Int32)  (s1 : Int32) (s2 : Int32)    (hf : b_X6_worth_52 B J x1 x2 x3 s1 s2 = some res) : ww G 4 O A (oa_Q G O A (0, 0) (some (.int res)) (fun W1 => W1 = wd_O O a B J)) (0, 0) 52 [] [.int s2, .int s1, .ref (a 1)] (wd_O O a B J) := by
  delta b_X6_worth_52 at hf
  obtain ⟨y16, e17, hf⟩ := oa_bind hf
  refine ww_callV (pc := 52) (As := [.int s1, .int s2]) (rest := []) (wd := wd_V O (fun i => a (i + 1)) (B 0)) (ws' := wd_O O a B J) (rv := (some (.int y16))) C hY_X5_value hV_X5_value lk_X6_167 (m_X5_value _ O (fun i => a (i + 1)) (B 0) s1 s2 _ e17) [1, 2, 3, 4, 5, 6] 1 rfl rfl rfl rfl rfl (oa_putS _ _ _ rfl) (fun _ h => h) ⟨rfl, rfl⟩ ⟨Nat.zero_le _, Nat.zero_le _⟩ ⟨Nat.le_of_ble_eq_true rfl, Nat.le_of_ble_eq_true rfl⟩ rfl (Nat.le_of_ble_eq_true rfl) rfl rfl dX6_worth_52 ?_
  obtain rfl := Option.some.inj hf
  exact ww_iret (pc := 55) C rfl dX6_worth_55
theorem m_X6_worth (l : Launch) (O : oa_O) (a : Nat → Nat) (B : oa_I3) (J : oa_J2) (x1 : Int32) (x2 : Int32) (x3 : Int32) (res : Int32) (hf : f_X6_worth B J x1 x2 x3 = some res) : oa_M l yX6_worth cX6_worth 4 (some .int) rm_X6_worth O [.ref (a 0), .int x1, .int x2, .int x3] (wd_O O a B J) (some (.int res)) (fun W1 => W1 = wd_O O a B J) := by
  refine oa_Mof (by decide) (Nat.le_of_ble_eq_true rfl) (fun G A hl C => ?_)
  subst hl
  have C : oa_C G cX6_worth 4 RX6 (some .int) rm_X6_worth O A := C
  have hf : f_X6_worth B J x1 x2 x3 = some res := hf
  delta f_X6_worth at hf
  show ww G 4 O A (oa_Q G O A (0, 0) (some (.int res)) (fun W1 => W1 = wd_O O a B J)) (0, 0) 0 [(0, .ref (a 0)), (1, .int x1), (2, .int x2), (3, .int x3)] [] (wd_O O a B J)
  refine ww_aload_n (pc := 0) (i := 0) C 0 dX6_worth_0 rfl rfl ?_
  refine ww_get (pc := 1) C fl_X6_10 0 rfl rfl dX6_worth_1 ?_
  refine ww_iload_n (pc := 4) (i := 1) C 1 dX6_worth_4 rfl rfl ?_
  refine ww_iload_n (pc := 5) (i := 2) C 2 dX6_worth_5 rfl rfl ?_
  obtain ⟨y1, e2, hf⟩ := oa_bind hf
  refine ww_callV (pc := 6) (As := [.int x1, .int x2]) (rest := []) (wd := wd_V O (fun i => a (i + 1)) (B 0)) (ws' := wd_O O a B J) (rv := (some (.int y1))) C hY_X5_hasTwo hV_X5_hasTwo lk_X6_131 (m_X5_hasTwo _ O (fun i => a (i + 1)) (B 0) x1 x2 _ e2) [1, 2, 3, 4, 5, 6] 1 rfl rfl rfl rfl rfl (oa_putS _ _ _ rfl) (fun _ h => h) ⟨rfl, rfl⟩ ⟨Nat.zero_le _, Nat.zero_le _⟩ ⟨Nat.le_of_ble_eq_true rfl, Nat.le_of_ble_eq_true rfl⟩ rfl (Nat.le_of_ble_eq_true rfl) rfl rfl dX6_worth_6 ?_
  refine ww_if_eq (pc := 9) (tgt := 21) C dX6_worth_9 (by decide) (fun c4 => ?_) (fun c4 => ?_)
  · have hf := oa_ifp c4 hf
    refine ww_ldc (pc := 21) C cw_X6_144 dX6_worth_21 ?_
    obtain rfl := Option.some.inj hf
    exact ww_iret (pc := 23) C rfl dX6_worth_23
  · have hf := oa_ifn c4 hf
    refine ww_iload_n (pc := 12) (i := 3) C 3 dX6_worth_12 rfl rfl ?_
    refine ww_iconst (pc := 13) C dX6_worth_13 kc_0 ?_
    refine ww_iconst (pc := 14) C dX6_worth_14 kc_1 ?_
    obtain ⟨y5, e6, hf⟩ := oa_bind hf
    refine ww_callS (pc := 15) (As := [.int x3, .int 0, .int 1]) (rest := []) (wd := []) (ws' := wd_O O a B J) (rv := (some (.int y5))) C hY_X6_within hS_X6_within lk_X6_96 (m_X6_within _ O  x3 0 1 _ e6) [] rfl rfl rfl (oa_putS _ _ _ rfl) (fun _ h => h) ⟨rfl, rfl⟩ ⟨Nat.zero_le _, Nat.zero_le _⟩ ⟨Nat.le_of_ble_eq_true rfl, Nat.le_of_ble_eq_true rfl⟩ rfl (Nat.le_of_ble_eq_true rfl) rfl rfl dX6_worth_15 ?_
    refine ww_if_ne (pc := 18) (tgt := 24) C dX6_worth_18 (by decide) (fun c8 => ?_) (fun c8 => ?_)
    · have hf := oa_ifn c8 hf
      refine ww_aload_n (pc := 24) (i := 0) C 0 dX6_worth_24 rfl rfl ?_
      refine ww_get (pc := 25) C fl_X6_10 0 rfl rfl dX6_worth_25 ?_
      refine ww_iload_n (pc := 28) (i := 2) C 2 dX6_worth_28 rfl rfl ?_
      refine ww_iload_n (pc := 29) (i := 3) C 3 dX6_worth_29 rfl rfl ?_
      refine ww_if_ne (pc := 30) (tgt := 44) C dX6_worth_30 (by decide) (fun c9 => ?_) (fun c9 => ?_)
      · have hf := oa_ifn c9 hf
        refine ww_aload_n (pc := 44) (i := 0) C 0 dX6_worth_44 rfl rfl ?_
        refine ww_get (pc := 45) C fl_X6_10 0 rfl rfl dX6_worth_45 ?_
        refine ww_iload_n (pc := 48) (i := 1) C 1 dX6_worth_48 rfl rfl ?_
        obtain ⟨y10, e11, hf⟩ := oa_bind hf
        refine ww_callV (pc := 49) (As := [.int x1]) (rest := [.int x2, .ref (a 1)]) (wd := wd_V O (fun i => a (i + 1)) (B 0)) (ws' := wd_O O a B J) (rv := (some (.int y10))) C hY_X5_able hV_X5_able lk_X6_158 (m_X5_able _ O (fun i => a (i + 1)) (B 0) x1 _ e11) [1, 2, 3, 4, 5, 6] 1 rfl rfl rfl rfl rfl (oa_putS _ _ _ rfl) (fun _ h => h) ⟨rfl, rfl⟩ ⟨Nat.zero_le _, Nat.zero_le _⟩ ⟨Nat.le_of_ble_eq_true rfl, Nat.le_of_ble_eq_true rfl⟩ rfl (Nat.le_of_ble_eq_true rfl) rfl rfl dX6_worth_49 ?_
        refine ww_sub C [] rfl ?_
        exact t_b_X6_worth_52 C B J x1 x2 x3 x2 y10   hf
      · have hf := oa_ifp c9 hf
        refine ww_aload_n (pc := 33) (i := 0) C 0 dX6_worth_33 rfl rfl ?_
        refine ww_get (pc := 34) C fl_X6_10 0 rfl rfl dX6_worth_34 ?_
        refine ww_iload_n (pc := 37) (i := 1) C 1 dX6_worth_37 rfl rfl ?_
        obtain ⟨y13, e14, hf⟩ := oa_bind hf
        refine ww_callV (pc := 38) (As := [.int x1]) (rest := [.int x2, .ref (a 1)]) (wd := wd_V O (fun i => a (i + 1)) (B 0)) (ws' := wd_O O a B J) (rv := (some (.int y13))) C hY_X5_ableAsSeen hV_X5_ableAsSeen lk_X6_164 (m_X5_ableAsSeen _ O (fun i => a (i + 1)) (B 0) x1 _ e14) [1, 2, 3, 4, 5, 6] 1 rfl rfl rfl rfl rfl (oa_putS _ _ _ rfl) (fun _ h => h) ⟨rfl, rfl⟩ ⟨Nat.zero_le _, Nat.zero_le _⟩ ⟨Nat.le_of_ble_eq_true rfl, Nat.le_of_ble_eq_true rfl⟩ rfl (Nat.le_of_ble_eq_true rfl) rfl rfl dX6_worth_38 ?_
        refine ww_goto (pc := 41) (tgt := 52) C dX6_worth_41 (by decide) ?_
        refine ww_sub C [] rfl ?_
        exact t_b_X6_worth_52 C B J x1 x2 x3 x2 y13   hf
    · have hf := oa_ifp c8 hf
      refine ww_ldc (pc := 21) C cw_X6_144 dX6_worth_21 ?_
      obtain rfl := Option.some.inj hf
      exact ww_iret (pc := 23) C rfl dX6_worth_23
theorem dX6_would_0 : decode cX6_would 0 = .ok (.aload_n 0, 1) := by decide +kernel
theorem dX6_would_1 : decode cX6_would 1 = .ok (.getfield 10, 3) := by decide +kernel
theorem dX6_would_4 : decode cX6_would 4 = .ok (.iload_n 1, 1) := by decide +kernel
theorem dX6_would_5 : decode cX6_would 5 = .ok (.iload_n 2, 1) := by decide +kernel
theorem dX6_would_6 : decode cX6_would 6 = .ok (.invokevirtual 131, 3) := by decide +kernel
theorem dX6_would_9 : decode cX6_would 9 = .ok (.ifCond .eq 22, 3) := by decide +kernel
theorem dX6_would_12 : decode cX6_would 12 = .ok (.aload_n 0, 1) := by decide +kernel
theorem dX6_would_13 : decode cX6_would 13 = .ok (.getfield 10, 3) := by decide +kernel
theorem dX6_would_16 : decode cX6_would 16 = .ok (.iload_n 2, 1) := by decide +kernel
theorem dX6_would_17 : decode cX6_would 17 = .ok (.aload_n 0, 1) := by decide +kernel
theorem dX6_would_18 : decode cX6_would 18 = .ok (.getfield 10, 3) := by decide +kernel
theorem dX6_would_21 : decode cX6_would 21 = .ok (.iload_n 1, 1) := by decide +kernel
theorem dX6_would_22 : decode cX6_would 22 = .ok (.invokevirtual 158, 3) := by decide +kernel
theorem dX6_would_25 : decode cX6_would 25 = .ok (.invokevirtual 161, 3) := by decide +kernel
theorem dX6_would_28 : decode cX6_would 28 = .ok (.goto 4, 3) := by decide +kernel
theorem dX6_would_31 : decode cX6_would 31 = .ok (.iconst (-1), 1) := by decide +kernel
theorem dX6_would_32 : decode cX6_would 32 = .ok (.ireturn, 1) := by decide +kernel
abbrev rm_X6_would : Room := { frames := 3, cells := 0, slots := 0, locals := 68 }
theorem m_X6_would (l : Launch) (O : oa_O) (a : Nat → Nat) (B : oa_I3) (J : oa_J2) (x1 : Int32) (x2 : Int32) (res : Int32) (hf : f_X6_would B J x1 x2 = some res) : oa_M l yX6_would cX6_would 3 (some .int) rm_X6_would O [.ref (a 0), .int x1, .int x2] (wd_O O a B J) (some (.int res)) (fun W1 => W1 = wd_O O a B J) := by
  refine oa_Mof (by decide) (Nat.le_of_ble_eq_true rfl) (fun G A hl C => ?_)
  subst hl
  have C : oa_C G cX6_would 3 RX6 (some .int) rm_X6_would O A := C
  have hf : f_X6_would B J x1 x2 = some res := hf
  delta f_X6_would at hf
  show ww G 3 O A (oa_Q G O A (0, 0) (some (.int res)) (fun W1 => W1 = wd_O O a B J)) (0, 0) 0 [(0, .ref (a 0)), (1, .int x1), (2, .int x2)] [] (wd_O O a B J)
  refine ww_aload_n (pc := 0) (i := 0) C 0 dX6_would_0 rfl rfl ?_
  refine ww_get (pc := 1) C fl_X6_10 0 rfl rfl dX6_would_1 ?_
  refine ww_iload_n (pc := 4) (i := 1) C 1 dX6_would_4 rfl rfl ?_
  refine ww_iload_n (pc := 5) (i := 2) C 2 dX6_would_5 rfl rfl ?_
  obtain ⟨y1, e2, hf⟩ := oa_bind hf
  refine ww_callV (pc := 6) (As := [.int x1, .int x2]) (rest := []) (wd := wd_V O (fun i => a (i + 1)) (B 0)) (ws' := wd_O O a B J) (rv := (some (.int y1))) C hY_X5_hasTwo hV_X5_hasTwo lk_X6_131 (m_X5_hasTwo _ O (fun i => a (i + 1)) (B 0) x1 x2 _ e2) [1, 2, 3, 4, 5, 6] 1 rfl rfl rfl rfl rfl (oa_putS _ _ _ rfl) (fun _ h => h) ⟨rfl, rfl⟩ ⟨Nat.zero_le _, Nat.zero_le _⟩ ⟨Nat.le_of_ble_eq_true rfl, Nat.le_of_ble_eq_true rfl⟩ rfl (Nat.le_of_ble_eq_true rfl) rfl rfl dX6_would_6 ?_
  refine ww_if_eq (pc := 9) (tgt := 31) C dX6_would_9 (by decide) (fun c4 => ?_) (fun c4 => ?_)
  · have hf := oa_ifp c4 hf
    refine ww_iconst (pc := 31) C dX6_would_31 kc_m1 ?_
    obtain rfl := Option.some.inj hf
    exact ww_iret (pc := 32) C rfl dX6_would_32
  · have hf := oa_ifn c4 hf
    refine ww_aload_n (pc := 12) (i := 0) C 0 dX6_would_12 rfl rfl ?_
    refine ww_get (pc := 13) C fl_X6_10 0 rfl rfl dX6_would_13 ?_
    refine ww_iload_n (pc := 16) (i := 2) C 2 dX6_would_16 rfl rfl ?_
    refine ww_aload_n (pc := 17) (i := 0) C 0 dX6_would_17 rfl rfl ?_
    refine ww_get (pc := 18) C fl_X6_10 0 rfl rfl dX6_would_18 ?_
    refine ww_iload_n (pc := 21) (i := 1) C 1 dX6_would_21 rfl rfl ?_
    obtain ⟨y5, e6, hf⟩ := oa_bind hf
    refine ww_callV (pc := 22) (As := [.int x1]) (rest := [.int x2, .ref (a 1)]) (wd := wd_V O (fun i => a (i + 1)) (B 0)) (ws' := wd_O O a B J) (rv := (some (.int y5))) C hY_X5_able hV_X5_able lk_X6_158 (m_X5_able _ O (fun i => a (i + 1)) (B 0) x1 _ e6) [1, 2, 3, 4, 5, 6] 1 rfl rfl rfl rfl rfl (oa_putS _ _ _ rfl) (fun _ h => h) ⟨rfl, rfl⟩ ⟨Nat.zero_le _, Nat.zero_le _⟩ ⟨Nat.le_of_ble_eq_true rfl, Nat.le_of_ble_eq_true rfl⟩ rfl (Nat.le_of_ble_eq_true rfl) rfl rfl dX6_would_22 ?_
    obtain ⟨y8, e9, hf⟩ := oa_bind hf
    refine ww_callV (pc := 25) (As := [.int x2, .int y5]) (rest := []) (wd := wd_V O (fun i => a (i + 1)) (B 0)) (ws' := wd_O O a B J) (rv := (some (.int y8))) C hY_X5_minders hV_X5_minders lk_X6_161 (m_X5_minders _ O (fun i => a (i + 1)) (B 0) x2 y5 _ e9) [1, 2, 3, 4, 5, 6] 1 rfl rfl rfl rfl rfl (oa_putS _ _ _ rfl) (fun _ h => h) ⟨rfl, rfl⟩ ⟨Nat.zero_le _, Nat.zero_le _⟩ ⟨Nat.le_of_ble_eq_true rfl, Nat.le_of_ble_eq_true rfl⟩ rfl (Nat.le_of_ble_eq_true rfl) rfl rfl dX6_would_25 ?_
    refine ww_goto (pc := 28) (tgt := 32) C dX6_would_28 (by decide) ?_
    obtain rfl := Option.some.inj hf
    exact ww_iret (pc := 32) C rfl dX6_would_32
theorem dX6_wrong_0 : decode cX6_wrong 0 = .ok (.aload_n 0, 1) := by decide +kernel
theorem dX6_wrong_1 : decode cX6_wrong 1 = .ok (.getfield 10, 3) := by decide +kernel
theorem dX6_wrong_4 : decode cX6_wrong 4 = .ok (.iload_n 1, 1) := by decide +kernel
theorem dX6_wrong_5 : decode cX6_wrong 5 = .ok (.iload_n 2, 1) := by decide +kernel
theorem dX6_wrong_6 : decode cX6_wrong 6 = .ok (.invokevirtual 131, 3) := by decide +kernel
theorem dX6_wrong_9 : decode cX6_wrong 9 = .ok (.ifCond .ne 6, 3) := by decide +kernel
theorem dX6_wrong_12 : decode cX6_wrong 12 = .ok (.ldc 144, 2) := by decide +kernel
theorem dX6_wrong_14 : decode cX6_wrong 14 = .ok (.ireturn, 1) := by decide +kernel
theorem dX6_wrong_15 : decode cX6_wrong 15 = .ok (.aload_n 0, 1) := by decide +kernel
theorem dX6_wrong_16 : decode cX6_wrong 16 = .ok (.getfield 10, 3) := by decide +kernel
theorem dX6_wrong_19 : decode cX6_wrong 19 = .ok (.iload_n 2, 1) := by decide +kernel
theorem dX6_wrong_20 : decode cX6_wrong 20 = .ok (.aload_n 0, 1) := by decide +kernel
theorem dX6_wrong_21 : decode cX6_wrong 21 = .ok (.getfield 10, 3) := by decide +kernel
theorem dX6_wrong_24 : decode cX6_wrong 24 = .ok (.iload_n 1, 1) := by decide +kernel
theorem dX6_wrong_25 : decode cX6_wrong 25 = .ok (.invokevirtual 158, 3) := by decide +kernel
theorem dX6_wrong_28 : decode cX6_wrong 28 = .ok (.invokevirtual 167, 3) := by decide +kernel
theorem dX6_wrong_31 : decode cX6_wrong 31 = .ok (.istore_n 3, 1) := by decide +kernel
theorem dX6_wrong_32 : decode cX6_wrong 32 = .ok (.aload_n 0, 1) := by decide +kernel
theorem dX6_wrong_33 : decode cX6_wrong 33 = .ok (.getfield 10, 3) := by decide +kernel
theorem dX6_wrong_36 : decode cX6_wrong 36 = .ok (.iload_n 1, 1) := by decide +kernel
theorem dX6_wrong_37 : decode cX6_wrong 37 = .ok (.iload_n 2, 1) := by decide +kernel
theorem dX6_wrong_38 : decode cX6_wrong 38 = .ok (.invokevirtual 173, 3) := by decide +kernel
theorem dX6_wrong_41 : decode cX6_wrong 41 = .ok (.iload_n 3, 1) := by decide +kernel
theorem dX6_wrong_42 : decode cX6_wrong 42 = .ok (.ireturn, 1) := by decide +kernel
abbrev rm_X6_wrong : Room := { frames := 4, cells := 0, slots := 0, locals := 92 }
theorem m_X6_wrong (l : Launch) (O : oa_O) (a : Nat → Nat) (B : oa_I3) (J : oa_J2) (x1 : Int32) (x2 : Int32) (res : Int32 × oa_I3) (hf : f_X6_wrong B J x1 x2 = some res) : oa_M l yX6_wrong cX6_wrong 4 (some .int) rm_X6_wrong O [.ref (a 0), .int x1, .int x2] (wd_O O a B J) (some (.int res.1)) (fun W1 => W1 = wd_O O a res.2 J) := by
  refine oa_Mof (by decide) (Nat.le_of_ble_eq_true rfl) (fun G A hl C => ?_)
  subst hl
  have C : oa_C G cX6_wrong 4 RX6 (some .int) rm_X6_wrong O A := C
  have hf : f_X6_wrong B J x1 x2 = some res := hf
  delta f_X6_wrong at hf
  show ww G 4 O A (oa_Q G O A (0, 0) (some (.int res.1)) (fun W1 => W1 = wd_O O a res.2 J)) (0, 0) 0 [(0, .ref (a 0)), (1, .int x1), (2, .int x2)] [] (wd_O O a B J)
  refine ww_aload_n (pc := 0) (i := 0) C 0 dX6_wrong_0 rfl rfl ?_
  refine ww_get (pc := 1) C fl_X6_10 0 rfl rfl dX6_wrong_1 ?_
  refine ww_iload_n (pc := 4) (i := 1) C 1 dX6_wrong_4 rfl rfl ?_
  refine ww_iload_n (pc := 5) (i := 2) C 2 dX6_wrong_5 rfl rfl ?_
  obtain ⟨y1, e2, hf⟩ := oa_bind hf
  refine ww_callV (pc := 6) (As := [.int x1, .int x2]) (rest := []) (wd := wd_V O (fun i => a (i + 1)) (B 0)) (ws' := wd_O O a B J) (rv := (some (.int y1))) C hY_X5_hasTwo hV_X5_hasTwo lk_X6_131 (m_X5_hasTwo _ O (fun i => a (i + 1)) (B 0) x1 x2 _ e2) [1, 2, 3, 4, 5, 6] 1 rfl rfl rfl rfl rfl (oa_putS _ _ _ rfl) (fun _ h => h) ⟨rfl, rfl⟩ ⟨Nat.zero_le _, Nat.zero_le _⟩ ⟨Nat.le_of_ble_eq_true rfl, Nat.le_of_ble_eq_true rfl⟩ rfl (Nat.le_of_ble_eq_true rfl) rfl rfl dX6_wrong_6 ?_
  refine ww_if_ne (pc := 9) (tgt := 15) C dX6_wrong_9 (by decide) (fun c4 => ?_) (fun c4 => ?_)
  · have hf := oa_ifn c4 hf
    refine ww_aload_n (pc := 15) (i := 0) C 0 dX6_wrong_15 rfl rfl ?_
    refine ww_get (pc := 16) C fl_X6_10 0 rfl rfl dX6_wrong_16 ?_
    refine ww_iload_n (pc := 19) (i := 2) C 2 dX6_wrong_19 rfl rfl ?_
    refine ww_aload_n (pc := 20) (i := 0) C 0 dX6_wrong_20 rfl rfl ?_
    refine ww_get (pc := 21) C fl_X6_10 0 rfl rfl dX6_wrong_21 ?_
    refine ww_iload_n (pc := 24) (i := 1) C 1 dX6_wrong_24 rfl rfl ?_
    obtain ⟨y5, e6, hf⟩ := oa_bind hf
    refine ww_callV (pc := 25) (As := [.int x1]) (rest := [.int x2, .ref (a 1)]) (wd := wd_V O (fun i => a (i + 1)) (B 0)) (ws' := wd_O O a B J) (rv := (some (.int y5))) C hY_X5_able hV_X5_able lk_X6_158 (m_X5_able _ O (fun i => a (i + 1)) (B 0) x1 _ e6) [1, 2, 3, 4, 5, 6] 1 rfl rfl rfl rfl rfl (oa_putS _ _ _ rfl) (fun _ h => h) ⟨rfl, rfl⟩ ⟨Nat.zero_le _, Nat.zero_le _⟩ ⟨Nat.le_of_ble_eq_true rfl, Nat.le_of_ble_eq_true rfl⟩ rfl (Nat.le_of_ble_eq_true rfl) rfl rfl dX6_wrong_25 ?_
    obtain ⟨y8, e9, hf⟩ := oa_bind hf
    refine ww_callV (pc := 28) (As := [.int x2, .int y5]) (rest := []) (wd := wd_V O (fun i => a (i + 1)) (B 0)) (ws' := wd_O O a B J) (rv := (some (.int y8))) C hY_X5_value hV_X5_value lk_X6_167 (m_X5_value _ O (fun i => a (i + 1)) (B 0) x2 y5 _ e9) [1, 2, 3, 4, 5, 6] 1 rfl rfl rfl rfl rfl (oa_putS _ _ _ rfl) (fun _ h => h) ⟨rfl, rfl⟩ ⟨Nat.zero_le _, Nat.zero_le _⟩ ⟨Nat.le_of_ble_eq_true rfl, Nat.le_of_ble_eq_true rfl⟩ rfl (Nat.le_of_ble_eq_true rfl) rfl rfl dX6_wrong_28 ?_
    refine ww_istore_n (pc := 31) (L' := [(0, .ref (a 0)), (1, .int x1), (2, .int x2), (3, .int y8)]) C [1, 2, 3, 0] dX6_wrong_31 rfl (Nat.le_of_ble_eq_true rfl) rfl ?_
    refine ww_aload_n (pc := 32) (i := 0) C 0 dX6_wrong_32 rfl rfl ?_
    refine ww_get (pc := 33) C fl_X6_10 0 rfl rfl dX6_wrong_33 ?_
    refine ww_iload_n (pc := 36) (i := 1) C 1 dX6_wrong_36 rfl rfl ?_
    refine ww_iload_n (pc := 37) (i := 2) C 2 dX6_wrong_37 rfl rfl ?_
    obtain ⟨V11, e12, hf⟩ := oa_bind hf
    obtain ⟨B14, e15, hf⟩ := oa_letE hf
    refine ww_callV (pc := 38) (As := [.int x1, .int x2]) (rest := []) (wd := wd_V O (fun i => a (i + 1)) V11) (ws' := wd_O O a B14 J) (rv := none) C hY_X5_doWrong hV_X5_doWrong lk_X6_173 (m_X5_doWrong _ O (fun i => a (i + 1)) (B 0) x1 x2 _ e12) [1, 2, 3, 4, 5, 6] 1 rfl rfl rfl rfl rfl (by subst e15; rfl) (fun _ h => h) ⟨rfl, rfl⟩ ⟨Nat.zero_le _, Nat.zero_le _⟩ ⟨Nat.le_of_ble_eq_true rfl, Nat.le_of_ble_eq_true rfl⟩ rfl (Nat.le_of_ble_eq_true rfl) rfl rfl dX6_wrong_38 ?_
    refine ww_iload_n (pc := 41) (i := 3) C 3 dX6_wrong_41 rfl rfl ?_
    obtain rfl := Option.some.inj hf
    exact ww_iret (pc := 42) C rfl dX6_wrong_42
  · have hf := oa_ifp c4 hf
    refine ww_ldc (pc := 12) C cw_X6_144 dX6_wrong_12 ?_
    obtain rfl := Option.some.inj hf
    exact ww_iret (pc := 14) C rfl dX6_wrong_14
