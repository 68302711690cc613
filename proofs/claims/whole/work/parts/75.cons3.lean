set_option maxHeartbeats 4000000 in
set_option maxRecDepth 100000 in
theorem it_2 (g : ax_G) : IT g md_X2_init 2 20 280 2 df_2 [2, 0, 10, 11, 12, 13, 14, 5, 30, 31, 32, 1, 15, 16, 17, 18, 19, 20, 21, 22, 23] := by
  refine it_intro (by decide) rfl (by decide) ?_
  intro X A h0 hg hnL B hin hq
  subst hg
  show KW X A 0 0 0 [(0, .ref h0)] [] [(h0, .inr (2, df_2))]
  refine kr_aload0 B dX2_init_0 ?_
  refine kr_obj B dX2_init_1 lo_2 (by decide) ?_
  refine kr_aload0 B dX2_init_4 ?_
  refine kr_new (ci := 0) (fs := df_0) B dX2_init_5 uw_0 tyX0_ok lc_2_9 is_0 ii_0 rfl dd_0 (Nat.le_of_ble_eq_true rfl) (Nat.le_of_ble_eq_true rfl) (fun q0 => ?_)
  refine kr_dup B dX2_init_8 ?_
  refine kr_callN B dX2_init_9 in_0 rfl li_2_11 (it_0 X.g) (by decide) (Nat.le_of_ble_eq_true rfl) (Nat.le_of_ble_eq_true rfl) (Nat.le_of_ble_eq_true rfl) (fun a0 e0 => ?_)
  subst e0
  refine kr_putF (t := .object "SecondChances$DeedList") B hin dX2_init_12 fl_2_12 (fun T C N h => by cases h; exact ⟨rfl, rfl, by decide +kernel⟩) rfl rfl (Nat.le_of_ble_eq_true rfl) ?_
  show KW X A 6 51 15 [(0, .ref h0)] [] ((h0, .inr (2, [.ref (a0 0), .null, .null, .null, .null, .null, .null, .null, .null])) :: (wl (ga X.g a0) M0 [0, 10, 11, 12, 13, 14]))
  refine kr_aload0 B dX2_init_15 ?_
  refine kr_new (ci := 5) (fs := df_5) B dX2_init_16 uw_5 tyX5_ok lc_2_18 is_5 ii_5 rfl dd_5 (Nat.le_of_ble_eq_true rfl) (Nat.le_of_ble_eq_true rfl) (fun q5 => ?_)
  refine kr_dup B dX2_init_19 ?_
  refine kr_callN B dX2_init_20 in_5 rfl li_2_20 (it_5 X.g) (by decide) (Nat.le_of_ble_eq_true rfl) (Nat.le_of_ble_eq_true rfl) (Nat.le_of_ble_eq_true rfl) (fun a5 e5 => ?_)
  subst e5
  refine kr_putF (t := .object "SecondChances$RuleBook") B hin dX2_init_23 fl_2_21 (fun T C N h => by cases h; exact ⟨rfl, rfl, by decide +kernel⟩) rfl rfl (Nat.le_of_ble_eq_true rfl) ?_
  show KW X A 10 73 26 [(0, .ref h0)] [] ((h0, .inr (2, [.ref (a0 0), .ref (a5 5), .null, .null, .null, .null, .null, .null, .null])) :: ((wl (ga X.g a0) M0 [0, 10, 11, 12, 13, 14]) ++ wl (ga X.g a5) M0 [5, 30, 31, 32]))
  refine kr_aload0 B dX2_init_26 ?_
  refine kr_new (ci := 1) (fs := df_1) B dX2_init_27 uw_1 tyX1_ok lc_2_25 is_1 ii_1 rfl dd_1 (Nat.le_of_ble_eq_true rfl) (Nat.le_of_ble_eq_true rfl) (fun q1 => ?_)
  refine kr_dup B dX2_init_30 ?_
  refine kr_callI B dX2_init_31 in_1 rfl li_2_27 (it_1 X.g) (by decide) (Nat.le_of_ble_eq_true rfl) (Nat.le_of_ble_eq_true rfl) (Nat.le_of_ble_eq_true rfl) (fun a1 e1 => ?_)
  subst e1
  refine kr_putF (t := .object "SecondChances$Night") B hin dX2_init_34 fl_2_28 (fun T C N h => by cases h; exact ⟨rfl, rfl, by decide +kernel⟩) rfl rfl (Nat.le_of_ble_eq_true rfl) ?_
  show KW X A 14 120 37 [(0, .ref h0)] [] ((h0, .inr (2, [.ref (a0 0), .ref (a5 5), .ref (a1 1), .null, .null, .null, .null, .null, .null])) :: (((wl (ga X.g a0) M0 [0, 10, 11, 12, 13, 14]) ++ wl (ga X.g a5) M0 [5, 30, 31, 32]) ++ wl (ga X.g a1) M0 [1, 15, 16, 17]))
  refine kr_aload0 B dX2_init_37 ?_
  refine kr_bipush (z := 8) B dX2_init_38 (by decide) ?_
  refine kr_newI (N := 8) B dX2_init_40 (by decide) (by decide) (Nat.le_of_ble_eq_true rfl) (Nat.le_of_ble_eq_true rfl) (Nat.le_of_ble_eq_true rfl) (fun q18 => ?_)
  refine kr_putF (t := .array .int) B hin dX2_init_42 fl_2_32 (fun T C N h => by cases h; exact ⟨rfl, rfl, by decide +kernel⟩) rfl rfl (Nat.le_of_ble_eq_true rfl) ?_
  show KW X A 15 128 45 [(0, .ref h0)] [] ((h0, .inr (2, [.ref (a0 0), .ref (a5 5), .ref (a1 1), .ref q18, .null, .null, .null, .null, .null])) :: ((((wl (ga X.g a0) M0 [0, 10, 11, 12, 13, 14]) ++ wl (ga X.g a5) M0 [5, 30, 31, 32]) ++ wl (ga X.g a1) M0 [1, 15, 16, 17]) ++ [(q18, .inl (X.g.cI, 8, .inl (fun _ => 0)))]))
  refine kr_aload0 B dX2_init_45 ?_
  refine kr_bipush (z := 8) B dX2_init_46 (by decide) ?_
  refine kr_newZ (N := 8) B dX2_init_48 (by decide) (by decide) (Nat.le_of_ble_eq_true rfl) (Nat.le_of_ble_eq_true rfl) (Nat.le_of_ble_eq_true rfl) (fun q19 => ?_)
  refine kr_putF (t := .array .boolean) B hin dX2_init_50 fl_2_36 (fun T C N h => by cases h; exact ⟨rfl, rfl, by decide +kernel⟩) rfl rfl (Nat.le_of_ble_eq_true rfl) ?_
  show KW X A 16 136 53 [(0, .ref h0)] [] ((h0, .inr (2, [.ref (a0 0), .ref (a5 5), .ref (a1 1), .ref q18, .ref q19, .null, .null, .null, .null])) :: (((((wl (ga X.g a0) M0 [0, 10, 11, 12, 13, 14]) ++ wl (ga X.g a5) M0 [5, 30, 31, 32]) ++ wl (ga X.g a1) M0 [1, 15, 16, 17]) ++ [(q18, .inl (X.g.cI, 8, .inl (fun _ => 0)))]) ++ [(q19, .inl (X.g.cZ, 8, .inl (fun _ => 0)))]))
  refine kr_aload0 B dX2_init_53 ?_
  refine kr_bipush (z := 8) B dX2_init_54 (by decide) ?_
  refine kr_newZ (N := 8) B dX2_init_56 (by decide) (by decide) (Nat.le_of_ble_eq_true rfl) (Nat.le_of_ble_eq_true rfl) (Nat.le_of_ble_eq_true rfl) (fun q20 => ?_)
  refine kr_putF (t := .array .boolean) B hin dX2_init_58 fl_2_40 (fun T C N h => by cases h; exact ⟨rfl, rfl, by decide +kernel⟩) rfl rfl (Nat.le_of_ble_eq_true rfl) ?_
  show KW X A 17 144 61 [(0, .ref h0)] [] ((h0, .inr (2, [.ref (a0 0), .ref (a5 5), .ref (a1 1), .ref q18, .ref q19, .ref q20, .null, .null, .null])) :: ((((((wl (ga X.g a0) M0 [0, 10, 11, 12, 13, 14]) ++ wl (ga X.g a5) M0 [5, 30, 31, 32]) ++ wl (ga X.g a1) M0 [1, 15, 16, 17]) ++ [(q18, .inl (X.g.cI, 8, .inl (fun _ => 0)))]) ++ [(q19, .inl (X.g.cZ, 8, .inl (fun _ => 0)))]) ++ [(q20, .inl (X.g.cZ, 8, .inl (fun _ => 0)))]))
  refine kr_aload0 B dX2_init_61 ?_
  refine kr_bipush (z := 64) B dX2_init_62 (by decide) ?_
  refine kr_newI (N := 64) B dX2_init_64 (by decide) (by decide) (Nat.le_of_ble_eq_true rfl) (Nat.le_of_ble_eq_true rfl) (Nat.le_of_ble_eq_true rfl) (fun q21 => ?_)
  refine kr_putF (t := .array .int) B hin dX2_init_66 fl_2_43 (fun T C N h => by cases h; exact ⟨rfl, rfl, by decide +kernel⟩) rfl rfl (Nat.le_of_ble_eq_true rfl) ?_
  show KW X A 18 208 69 [(0, .ref h0)] [] ((h0, .inr (2, [.ref (a0 0), .ref (a5 5), .ref (a1 1), .ref q18, .ref q19, .ref q20, .ref q21, .null, .null])) :: (((((((wl (ga X.g a0) M0 [0, 10, 11, 12, 13, 14]) ++ wl (ga X.g a5) M0 [5, 30, 31, 32]) ++ wl (ga X.g a1) M0 [1, 15, 16, 17]) ++ [(q18, .inl (X.g.cI, 8, .inl (fun _ => 0)))]) ++ [(q19, .inl (X.g.cZ, 8, .inl (fun _ => 0)))]) ++ [(q20, .inl (X.g.cZ, 8, .inl (fun _ => 0)))]) ++ [(q21, .inl (X.g.cI, 64, .inl (fun _ => 0)))]))
  refine kr_aload0 B dX2_init_69 ?_
  refine kr_bipush (z := 64) B dX2_init_70 (by decide) ?_
  refine kr_newI (N := 64) B dX2_init_72 (by decide) (by decide) (Nat.le_of_ble_eq_true rfl) (Nat.le_of_ble_eq_true rfl) (Nat.le_of_ble_eq_true rfl) (fun q22 => ?_)
  refine kr_putF (t := .array .int) B hin dX2_init_74 fl_2_46 (fun T C N h => by cases h; exact ⟨rfl, rfl, by decide +kernel⟩) rfl rfl (Nat.le_of_ble_eq_true rfl) ?_
  show KW X A 19 272 77 [(0, .ref h0)] [] ((h0, .inr (2, [.ref (a0 0), .ref (a5 5), .ref (a1 1), .ref q18, .ref q19, .ref q20, .ref q21, .ref q22, .null])) :: ((((((((wl (ga X.g a0) M0 [0, 10, 11, 12, 13, 14]) ++ wl (ga X.g a5) M0 [5, 30, 31, 32]) ++ wl (ga X.g a1) M0 [1, 15, 16, 17]) ++ [(q18, .inl (X.g.cI, 8, .inl (fun _ => 0)))]) ++ [(q19, .inl (X.g.cZ, 8, .inl (fun _ => 0)))]) ++ [(q20, .inl (X.g.cZ, 8, .inl (fun _ => 0)))]) ++ [(q21, .inl (X.g.cI, 64, .inl (fun _ => 0)))]) ++ [(q22, .inl (X.g.cI, 64, .inl (fun _ => 0)))]))
  refine kr_aload0 B dX2_init_77 ?_
  refine kr_bipush (z := 8) B dX2_init_78 (by decide) ?_
  refine kr_newI (N := 8) B dX2_init_80 (by decide) (by decide) (Nat.le_of_ble_eq_true rfl) (Nat.le_of_ble_eq_true rfl) (Nat.le_of_ble_eq_true rfl) (fun q23 => ?_)
  refine kr_putF (t := .array .int) B hin dX2_init_82 fl_2_49 (fun T C N h => by cases h; exact ⟨rfl, rfl, by decide +kernel⟩) rfl rfl (Nat.le_of_ble_eq_true rfl) ?_
  show KW X A 20 280 85 [(0, .ref h0)] [] ((h0, .inr (2, [.ref (a0 0), .ref (a5 5), .ref (a1 1), .ref q18, .ref q19, .ref q20, .ref q21, .ref q22, .ref q23])) :: (((((((((wl (ga X.g a0) M0 [0, 10, 11, 12, 13, 14]) ++ wl (ga X.g a5) M0 [5, 30, 31, 32]) ++ wl (ga X.g a1) M0 [1, 15, 16, 17]) ++ [(q18, .inl (X.g.cI, 8, .inl (fun _ => 0)))]) ++ [(q19, .inl (X.g.cZ, 8, .inl (fun _ => 0)))]) ++ [(q20, .inl (X.g.cZ, 8, .inl (fun _ => 0)))]) ++ [(q21, .inl (X.g.cI, 64, .inl (fun _ => 0)))]) ++ [(q22, .inl (X.g.cI, 64, .inl (fun _ => 0)))]) ++ [(q23, .inl (X.g.cI, 8, .inl (fun _ => 0)))]))
  exact kr_ret (fun k => if k = 2 then h0 else if k = 0 then (a0 0) else if k = 10 then (a0 10) else if k = 11 then (a0 11) else if k = 12 then (a0 12) else if k = 13 then (a0 13) else if k = 14 then (a0 14) else if k = 5 then (a5 5) else if k = 30 then (a5 30) else if k = 31 then (a5 31) else if k = 32 then (a5 32) else if k = 1 then (a1 1) else if k = 15 then (a1 15) else if k = 16 then (a1 16) else if k = 17 then (a1 17) else if k = 18 then q18 else if k = 19 then q19 else if k = 20 then q20 else if k = 21 then q21 else if k = 22 then q22 else if k = 23 then q23 else 0) B dX2_init_85 hq rfl rfl
set_option maxHeartbeats 4000000 in
set_option maxRecDepth 100000 in
theorem it_4 (g : ax_G) : IT g md_X4_init 3 25 1065 4 df_4 [4, 26, 2, 0, 10, 11, 12, 13, 14, 5, 30, 31, 32, 1, 15, 16, 17, 18, 19, 20, 21, 22, 23, 27, 28, 29] := by
  refine it_intro (by decide) rfl (by decide) ?_
  intro X A h0 hg hnL B hin hq
  subst hg
  show KW X A 0 0 0 [(0, .ref h0)] [] [(h0, .inr (4, df_4))]
  refine kr_aload0 B dX4_init_0 ?_
  refine kr_obj B dX4_init_1 lo_4 (by decide) ?_
  refine kr_aload0 B dX4_init_4 ?_
  refine kr_bipush (z := 8) B dX4_init_5 (by decide) ?_
  refine kr_newI (N := 8) B dX4_init_7 (by decide) (by decide) (Nat.le_of_ble_eq_true rfl) (Nat.le_of_ble_eq_true rfl) (Nat.le_of_ble_eq_true rfl) (fun q26 => ?_)
  refine kr_putF (t := .array .int) B hin dX4_init_9 fl_4_9 (fun T C N h => by cases h; exact ⟨rfl, rfl, by decide +kernel⟩) rfl rfl (Nat.le_of_ble_eq_true rfl) ?_
  show KW X A 1 8 12 [(0, .ref h0)] [] ((h0, .inr (4, [.ref q26, .int 0, .int 0, .null, .null, .null, .null, .int 0])) :: ([(q26, .inl (X.g.cI, 8, .inl (fun _ => 0)))]))
  refine kr_aload0 B dX4_init_12 ?_
  refine kr_new (ci := 2) (fs := df_2) B dX4_init_13 uw_2 tyX2_ok lc_4_15 is_2 ii_2 rfl dd_2 (Nat.le_of_ble_eq_true rfl) (Nat.le_of_ble_eq_true rfl) (fun q2 => ?_)
  refine kr_dup B dX4_init_16 ?_
  refine kr_callN B dX4_init_17 in_2 rfl li_4_17 (it_2 X.g) (by decide) (Nat.le_of_ble_eq_true rfl) (Nat.le_of_ble_eq_true rfl) (Nat.le_of_ble_eq_true rfl) (fun a2 e2 => ?_)
  subst e2
  refine kr_putF (t := .object "SecondChances$Offers") B hin dX4_init_20 fl_4_18 (fun T C N h => by cases h; exact ⟨rfl, rfl, by decide +kernel⟩) rfl rfl (Nat.le_of_ble_eq_true rfl) ?_
  show KW X A 22 297 23 [(0, .ref h0)] [] ((h0, .inr (4, [.ref q26, .int 0, .int 0, .ref (a2 2), .null, .null, .null, .int 0])) :: (([(q26, .inl (X.g.cI, 8, .inl (fun _ => 0)))]) ++ wl (ga X.g a2) M0 [2, 0, 10, 11, 12, 13, 14, 5, 30, 31, 32, 1, 15, 16, 17, 18, 19, 20, 21, 22, 23]))
  refine kr_aload0 B dX4_init_23 ?_
  refine kr_sipush (z := 256) B dX4_init_24 (by decide) ?_
  refine kr_newJ (N := 256) B dX4_init_27 (by decide) (by decide) (Nat.le_of_ble_eq_true rfl) (Nat.le_of_ble_eq_true rfl) (Nat.le_of_ble_eq_true rfl) (fun q27 => ?_)
  refine kr_putF (t := .array .long) B hin dX4_init_29 fl_4_22 (fun T C N h => by cases h; exact ⟨rfl, rfl, by decide +kernel⟩) rfl rfl (Nat.le_of_ble_eq_true rfl) ?_
  show KW X A 23 553 32 [(0, .ref h0)] [] ((h0, .inr (4, [.ref q26, .int 0, .int 0, .ref (a2 2), .ref q27, .null, .null, .int 0])) :: ((([(q26, .inl (X.g.cI, 8, .inl (fun _ => 0)))]) ++ wl (ga X.g a2) M0 [2, 0, 10, 11, 12, 13, 14, 5, 30, 31, 32, 1, 15, 16, 17, 18, 19, 20, 21, 22, 23]) ++ [(q27, .inl (X.g.cJ, 256, .inr (.inl (fun _ => 0))))]))
  refine kr_aload0 B dX4_init_32 ?_
  refine kr_sipush (z := 256) B dX4_init_33 (by decide) ?_
  refine kr_newJ (N := 256) B dX4_init_36 (by decide) (by decide) (Nat.le_of_ble_eq_true rfl) (Nat.le_of_ble_eq_true rfl) (Nat.le_of_ble_eq_true rfl) (fun q28 => ?_)
  refine kr_putF (t := .array .long) B hin dX4_init_38 fl_4_26 (fun T C N h => by cases h; exact ⟨rfl, rfl, by decide +kernel⟩) rfl rfl (Nat.le_of_ble_eq_true rfl) ?_
  show KW X A 24 809 41 [(0, .ref h0)] [] ((h0, .inr (4, [.ref q26, .int 0, .int 0, .ref (a2 2), .ref q27, .ref q28, .null, .int 0])) :: (((([(q26, .inl (X.g.cI, 8, .inl (fun _ => 0)))]) ++ wl (ga X.g a2) M0 [2, 0, 10, 11, 12, 13, 14, 5, 30, 31, 32, 1, 15, 16, 17, 18, 19, 20, 21, 22, 23]) ++ [(q27, .inl (X.g.cJ, 256, .inr (.inl (fun _ => 0))))]) ++ [(q28, .inl (X.g.cJ, 256, .inr (.inl (fun _ => 0))))]))
  refine kr_aload0 B dX4_init_41 ?_
  refine kr_sipush (z := 256) B dX4_init_42 (by decide) ?_
  refine kr_newJ (N := 256) B dX4_init_45 (by decide) (by decide) (Nat.le_of_ble_eq_true rfl) (Nat.le_of_ble_eq_true rfl) (Nat.le_of_ble_eq_true rfl) (fun q29 => ?_)
  refine kr_putF (t := .array .long) B hin dX4_init_47 fl_4_29 (fun T C N h => by cases h; exact ⟨rfl, rfl, by decide +kernel⟩) rfl rfl (Nat.le_of_ble_eq_true rfl) ?_
  show KW X A 25 1065 50 [(0, .ref h0)] [] ((h0, .inr (4, [.ref q26, .int 0, .int 0, .ref (a2 2), .ref q27, .ref q28, .ref q29, .int 0])) :: ((((([(q26, .inl (X.g.cI, 8, .inl (fun _ => 0)))]) ++ wl (ga X.g a2) M0 [2, 0, 10, 11, 12, 13, 14, 5, 30, 31, 32, 1, 15, 16, 17, 18, 19, 20, 21, 22, 23]) ++ [(q27, .inl (X.g.cJ, 256, .inr (.inl (fun _ => 0))))]) ++ [(q28, .inl (X.g.cJ, 256, .inr (.inl (fun _ => 0))))]) ++ [(q29, .inl (X.g.cJ, 256, .inr (.inl (fun _ => 0))))]))
  exact kr_ret (fun k => if k = 4 then h0 else if k = 26 then q26 else if k = 2 then (a2 2) else if k = 0 then (a2 0) else if k = 10 then (a2 10) else if k = 11 then (a2 11) else if k = 12 then (a2 12) else if k = 13 then (a2 13) else if k = 14 then (a2 14) else if k = 5 then (a2 5) else if k = 30 then (a2 30) else if k = 31 then (a2 31) else if k = 32 then (a2 32) else if k = 1 then (a2 1) else if k = 15 then (a2 15) else if k = 16 then (a2 16) else if k = 17 then (a2 17) else if k = 18 then (a2 18) else if k = 19 then (a2 19) else if k = 20 then (a2 20) else if k = 21 then (a2 21) else if k = 22 then (a2 22) else if k = 23 then (a2 23) else if k = 27 then q27 else if k = 28 then q28 else if k = 29 then q29 else 0) B dX4_init_50 hq rfl rfl
set_option maxHeartbeats 4000000 in
set_option maxRecDepth 100000 in
theorem it_8 (g : ax_G) : IT g md_X8_init 4 43 1407 8 df_8 [8, 4, 26, 2, 0, 10, 11, 12, 13, 14, 5, 30, 31, 32, 1, 15, 16, 17, 18, 19, 20, 21, 22, 23, 27, 28, 29, 7, 40, 41, 42, 43, 3, 24, 25, 6, 33, 34, 35, 36, 37, 38, 39, 44] := by
  refine it_intro (by decide) rfl (by decide) ?_
  intro X A h0 hg hnL B hin hq
  subst hg
  show KW X A 0 0 0 [(0, .ref h0)] [] [(h0, .inr (8, df_8))]
  refine kr_aload0 B dX8_init_0 ?_
  refine kr_obj B dX8_init_1 lo_8 (by decide) ?_
  refine kr_aload0 B dX8_init_4 ?_
  refine kr_new (ci := 4) (fs := df_4) B dX8_init_5 uw_4 tyX4_ok lc_8_7 is_4 ii_4 rfl dd_4 (Nat.le_of_ble_eq_true rfl) (Nat.le_of_ble_eq_true rfl) (fun q4 => ?_)
  refine kr_dup B dX8_init_8 ?_
  refine kr_callN B dX8_init_9 in_4 rfl li_8_9 (it_4 X.g) (by decide) (Nat.le_of_ble_eq_true rfl) (Nat.le_of_ble_eq_true rfl) (Nat.le_of_ble_eq_true rfl) (fun a4 e4 => ?_)
  subst e4
  refine kr_putF (t := .object "SecondChances$Planner") B hin dX8_init_12 fl_8_10 (fun T C N h => by cases h; exact ⟨rfl, rfl, by decide +kernel⟩) rfl rfl (Nat.le_of_ble_eq_true rfl) ?_
  show KW X A 26 1073 15 [(0, .ref h0)] [] ((h0, .inr (8, [.ref (a4 4), .null, .null, .null, .null, .null, .null, .null, .null, .int 0, .int 0])) :: (wl (ga X.g a4) M0 [4, 26, 2, 0, 10, 11, 12, 13, 14, 5, 30, 31, 32, 1, 15, 16, 17, 18, 19, 20, 21, 22, 23, 27, 28, 29]))
  refine kr_aload0 B dX8_init_15 ?_
  refine kr_aload0 B dX8_init_16 ?_
  refine kr_get (q0 := 0) (v := .ref (a4 4)) B dX8_init_17 fl_8_10 rfl rfl ?_
  refine kr_get (q0 := 1) (v := .ref (a4 2)) B dX8_init_20 fl_8_16 rfl rfl ?_
  refine kr_putF (t := .object "SecondChances$Offers") B hin dX8_init_23 fl_8_20 (fun T C N h => by cases h; exact ⟨rfl, rfl, by decide +kernel⟩) rfl rfl (Nat.le_of_ble_eq_true rfl) ?_
  show KW X A 26 1073 26 [(0, .ref h0)] [] ((h0, .inr (8, [.ref (a4 4), .ref (a4 2), .null, .null, .null, .null, .null, .null, .null, .int 0, .int 0])) :: (wl (ga X.g a4) M0 [4, 26, 2, 0, 10, 11, 12, 13, 14, 5, 30, 31, 32, 1, 15, 16, 17, 18, 19, 20, 21, 22, 23, 27, 28, 29]))
  refine kr_aload0 B dX8_init_26 ?_
  refine kr_aload0 B dX8_init_27 ?_
  refine kr_get (q0 := 0) (v := .ref (a4 2)) B dX8_init_28 fl_8_20 rfl rfl ?_
  refine kr_get (q0 := 3) (v := .ref (a4 0)) B dX8_init_31 fl_8_21 rfl rfl ?_
  refine kr_putF (t := .object "SecondChances$DeedList") B hin dX8_init_34 fl_8_27 (fun T C N h => by cases h; exact ⟨rfl, rfl, by decide +kernel⟩) rfl rfl (Nat.le_of_ble_eq_true rfl) ?_
  show KW X A 26 1073 37 [(0, .ref h0)] [] ((h0, .inr (8, [.ref (a4 4), .ref (a4 2), .ref (a4 0), .null, .null, .null, .null, .null, .null, .int 0, .int 0])) :: (wl (ga X.g a4) M0 [4, 26, 2, 0, 10, 11, 12, 13, 14, 5, 30, 31, 32, 1, 15, 16, 17, 18, 19, 20, 21, 22, 23, 27, 28, 29]))
  refine kr_aload0 B dX8_init_37 ?_
  refine kr_aload0 B dX8_init_38 ?_
  refine kr_get (q0 := 0) (v := .ref (a4 2)) B dX8_init_39 fl_8_20 rfl rfl ?_
  refine kr_get (q0 := 3) (v := .ref (a4 5)) B dX8_init_42 fl_8_30 rfl rfl ?_
  refine kr_putF (t := .object "SecondChances$RuleBook") B hin dX8_init_45 fl_8_34 (fun T C N h => by cases h; exact ⟨rfl, rfl, by decide +kernel⟩) rfl rfl (Nat.le_of_ble_eq_true rfl) ?_
  show KW X A 26 1073 48 [(0, .ref h0)] [] ((h0, .inr (8, [.ref (a4 4), .ref (a4 2), .ref (a4 0), .ref (a4 5), .null, .null, .null, .null, .null, .int 0, .int 0])) :: (wl (ga X.g a4) M0 [4, 26, 2, 0, 10, 11, 12, 13, 14, 5, 30, 31, 32, 1, 15, 16, 17, 18, 19, 20, 21, 22, 23, 27, 28, 29]))
  refine kr_aload0 B dX8_init_48 ?_
  refine kr_aload0 B dX8_init_49 ?_
  refine kr_get (q0 := 0) (v := .ref (a4 2)) B dX8_init_50 fl_8_20 rfl rfl ?_
  refine kr_get (q0 := 3) (v := .ref (a4 1)) B dX8_init_53 fl_8_37 rfl rfl ?_
  refine kr_putF (t := .object "SecondChances$Night") B hin dX8_init_56 fl_8_41 (fun T C N h => by cases h; exact ⟨rfl, rfl, by decide +kernel⟩) rfl rfl (Nat.le_of_ble_eq_true rfl) ?_
  show KW X A 26 1073 59 [(0, .ref h0)] [] ((h0, .inr (8, [.ref (a4 4), .ref (a4 2), .ref (a4 0), .ref (a4 5), .ref (a4 1), .null, .null, .null, .null, .int 0, .int 0])) :: (wl (ga X.g a4) M0 [4, 26, 2, 0, 10, 11, 12, 13, 14, 5, 30, 31, 32, 1, 15, 16, 17, 18, 19, 20, 21, 22, 23, 27, 28, 29]))
  refine kr_aload0 B dX8_init_59 ?_
  refine kr_new (ci := 7) (fs := df_7) B dX8_init_60 uw_7 tyX7_ok lc_8_42 is_7 ii_7 rfl dd_7 (Nat.le_of_ble_eq_true rfl) (Nat.le_of_ble_eq_true rfl) (fun q7 => ?_)
  refine kr_dup B dX8_init_63 ?_
  refine kr_callN B dX8_init_64 in_7 rfl li_8_44 (it_7 X.g) (by decide) (Nat.le_of_ble_eq_true rfl) (Nat.le_of_ble_eq_true rfl) (Nat.le_of_ble_eq_true rfl) (fun a7 e7 => ?_)
  subst e7
  refine kr_putF (t := .object "SecondChances$Sightings") B hin dX8_init_67 fl_8_45 (fun T C N h => by cases h; exact ⟨rfl, rfl, by decide +kernel⟩) rfl rfl (Nat.le_of_ble_eq_true rfl) ?_
  show KW X A 31 1120 70 [(0, .ref h0)] [] ((h0, .inr (8, [.ref (a4 4), .ref (a4 2), .ref (a4 0), .ref (a4 5), .ref (a4 1), .ref (a7 7), .null, .null, .null, .int 0, .int 0])) :: ((wl (ga X.g a4) M0 [4, 26, 2, 0, 10, 11, 12, 13, 14, 5, 30, 31, 32, 1, 15, 16, 17, 18, 19, 20, 21, 22, 23, 27, 28, 29]) ++ wl (ga X.g a7) M0 [7, 40, 41, 42, 43]))
  refine kr_aload0 B dX8_init_70 ?_
  refine kr_new (ci := 3) (fs := df_3) B dX8_init_71 uw_3 tyX3_ok lc_8_49 is_3 ii_3 rfl dd_3 (Nat.le_of_ble_eq_true rfl) (Nat.le_of_ble_eq_true rfl) (fun q3 => ?_)
  refine kr_dup B dX8_init_74 ?_
  refine kr_callN B dX8_init_75 in_3 rfl li_8_51 (it_3 X.g) (by decide) (Nat.le_of_ble_eq_true rfl) (Nat.le_of_ble_eq_true rfl) (Nat.le_of_ble_eq_true rfl) (fun a3 e3 => ?_)
  subst e3
  refine kr_putF (t := .object "SecondChances$Pairs") B hin dX8_init_78 fl_8_52 (fun T C N h => by cases h; exact ⟨rfl, rfl, by decide +kernel⟩) rfl rfl (Nat.le_of_ble_eq_true rfl) ?_
  show KW X A 34 1143 81 [(0, .ref h0)] [] ((h0, .inr (8, [.ref (a4 4), .ref (a4 2), .ref (a4 0), .ref (a4 5), .ref (a4 1), .ref (a7 7), .ref (a3 3), .null, .null, .int 0, .int 0])) :: (((wl (ga X.g a4) M0 [4, 26, 2, 0, 10, 11, 12, 13, 14, 5, 30, 31, 32, 1, 15, 16, 17, 18, 19, 20, 21, 22, 23, 27, 28, 29]) ++ wl (ga X.g a7) M0 [7, 40, 41, 42, 43]) ++ wl (ga X.g a3) M0 [3, 24, 25]))
  refine kr_aload0 B dX8_init_81 ?_
  refine kr_new (ci := 6) (fs := df_6) B dX8_init_82 uw_6 tyX6_ok lc_8_56 is_6 ii_6 rfl dd_6 (Nat.le_of_ble_eq_true rfl) (Nat.le_of_ble_eq_true rfl) (fun q6 => ?_)
  refine kr_dup B dX8_init_85 ?_
  refine kr_callI B dX8_init_86 in_6 rfl li_8_58 (it_6 X.g) (by decide) (Nat.le_of_ble_eq_true rfl) (Nat.le_of_ble_eq_true rfl) (Nat.le_of_ble_eq_true rfl) (fun a6 e6 => ?_)
  subst e6
  refine kr_putF (t := .object "SecondChances$Sheets") B hin dX8_init_89 fl_8_59 (fun T C N h => by cases h; exact ⟨rfl, rfl, by decide +kernel⟩) rfl rfl (Nat.le_of_ble_eq_true rfl) ?_
  show KW X A 42 1399 92 [(0, .ref h0)] [] ((h0, .inr (8, [.ref (a4 4), .ref (a4 2), .ref (a4 0), .ref (a4 5), .ref (a4 1), .ref (a7 7), .ref (a3 3), .ref (a6 6), .null, .int 0, .int 0])) :: ((((wl (ga X.g a4) M0 [4, 26, 2, 0, 10, 11, 12, 13, 14, 5, 30, 31, 32, 1, 15, 16, 17, 18, 19, 20, 21, 22, 23, 27, 28, 29]) ++ wl (ga X.g a7) M0 [7, 40, 41, 42, 43]) ++ wl (ga X.g a3) M0 [3, 24, 25]) ++ wl (ga X.g a6) M0 [6, 33, 34, 35, 36, 37, 38, 39]))
  refine kr_aload0 B dX8_init_92 ?_
  refine kr_bipush (z := 8) B dX8_init_93 (by decide) ?_
  refine kr_newI (N := 8) B dX8_init_95 (by decide) (by decide) (Nat.le_of_ble_eq_true rfl) (Nat.le_of_ble_eq_true rfl) (Nat.le_of_ble_eq_true rfl) (fun q44 => ?_)
  refine kr_putF (t := .array .int) B hin dX8_init_97 fl_8_63 (fun T C N h => by cases h; exact ⟨rfl, rfl, by decide +kernel⟩) rfl rfl (Nat.le_of_ble_eq_true rfl) ?_
  show KW X A 43 1407 100 [(0, .ref h0)] [] ((h0, .inr (8, [.ref (a4 4), .ref (a4 2), .ref (a4 0), .ref (a4 5), .ref (a4 1), .ref (a7 7), .ref (a3 3), .ref (a6 6), .ref q44, .int 0, .int 0])) :: (((((wl (ga X.g a4) M0 [4, 26, 2, 0, 10, 11, 12, 13, 14, 5, 30, 31, 32, 1, 15, 16, 17, 18, 19, 20, 21, 22, 23, 27, 28, 29]) ++ wl (ga X.g a7) M0 [7, 40, 41, 42, 43]) ++ wl (ga X.g a3) M0 [3, 24, 25]) ++ wl (ga X.g a6) M0 [6, 33, 34, 35, 36, 37, 38, 39]) ++ [(q44, .inl (X.g.cI, 8, .inl (fun _ => 0)))]))
  refine kr_aload0 B dX8_init_100 ?_
  refine kr_iconst (z := 1) B dX8_init_101 ?_
  refine kr_put (t := .boolean) B dX8_init_102 fl_8_67 (fun T C N h => by cases h; exact ⟨rfl, rfl, by decide +kernel⟩) rfl rfl (Nat.le_of_ble_eq_true rfl) ?_
  show KW X A 43 1407 105 [(0, .ref h0)] [] ((h0, .inr (8, [.ref (a4 4), .ref (a4 2), .ref (a4 0), .ref (a4 5), .ref (a4 1), .ref (a7 7), .ref (a3 3), .ref (a6 6), .ref q44, .int (ax_i 1), .int 0])) :: (((((wl (ga X.g a4) M0 [4, 26, 2, 0, 10, 11, 12, 13, 14, 5, 30, 31, 32, 1, 15, 16, 17, 18, 19, 20, 21, 22, 23, 27, 28, 29]) ++ wl (ga X.g a7) M0 [7, 40, 41, 42, 43]) ++ wl (ga X.g a3) M0 [3, 24, 25]) ++ wl (ga X.g a6) M0 [6, 33, 34, 35, 36, 37, 38, 39]) ++ [(q44, .inl (X.g.cI, 8, .inl (fun _ => 0)))]))
  refine kr_aload0 B dX8_init_105 ?_
  refine kr_iconst (z := 1) B dX8_init_106 ?_
  refine kr_put (t := .boolean) B dX8_init_107 fl_8_71 (fun T C N h => by cases h; exact ⟨rfl, rfl, by decide +kernel⟩) rfl rfl (Nat.le_of_ble_eq_true rfl) ?_
  show KW X A 43 1407 110 [(0, .ref h0)] [] ((h0, .inr (8, [.ref (a4 4), .ref (a4 2), .ref (a4 0), .ref (a4 5), .ref (a4 1), .ref (a7 7), .ref (a3 3), .ref (a6 6), .ref q44, .int (ax_i 1), .int (ax_i 1)])) :: (((((wl (ga X.g a4) M0 [4, 26, 2, 0, 10, 11, 12, 13, 14, 5, 30, 31, 32, 1, 15, 16, 17, 18, 19, 20, 21, 22, 23, 27, 28, 29]) ++ wl (ga X.g a7) M0 [7, 40, 41, 42, 43]) ++ wl (ga X.g a3) M0 [3, 24, 25]) ++ wl (ga X.g a6) M0 [6, 33, 34, 35, 36, 37, 38, 39]) ++ [(q44, .inl (X.g.cI, 8, .inl (fun _ => 0)))]))
  have h6 : wl (ga X.g a6) M0 [6, 33, 34, 35, 36, 37, 38, 39] = wl (ga X.g (fun k => if k = 8 then h0 else if k = 4 then (a4 4) else if k = 26 then (a4 26) else if k = 2 then (a4 2) else if k = 0 then (a4 0) else if k = 10 then (a4 10) else if k = 11 then (a4 11) else if k = 12 then (a4 12) else if k = 13 then (a4 13) else if k = 14 then (a4 14) else if k = 5 then (a4 5) else if k = 30 then (a4 30) else if k = 31 then (a4 31) else if k = 32 then (a4 32) else if k = 1 then (a4 1) else if k = 15 then (a4 15) else if k = 16 then (a4 16) else if k = 17 then (a4 17) else if k = 18 then (a4 18) else if k = 19 then (a4 19) else if k = 20 then (a4 20) else if k = 21 then (a4 21) else if k = 22 then (a4 22) else if k = 23 then (a4 23) else if k = 27 then (a4 27) else if k = 28 then (a4 28) else if k = 29 then (a4 29) else if k = 7 then (a7 7) else if k = 40 then (a7 40) else if k = 41 then (a7 41) else if k = 42 then (a7 42) else if k = 43 then (a7 43) else if k = 3 then (a3 3) else if k = 24 then (a3 24) else if k = 25 then (a3 25) else if k = 6 then (a6 6) else if k = 33 then (a6 33) else if k = 34 then (a6 34) else if k = 35 then (a6 35) else if k = 36 then (a6 36) else if k = 37 then (a6 37) else if k = 38 then (a6 38) else if k = 39 then (a6 39) else if k = 44 then q44 else 0)) M0 [6, 33, 34, 35, 36, 37, 38, 39] := wl_cg (kids_ok (by decide +kernel)) (fun k hk => by
      simp only [List.mem_cons, List.not_mem_nil, or_false] at hk
      rcases hk with rfl | rfl | rfl | rfl | rfl | rfl | rfl | rfl <;> rfl)
  rw [h6]
  exact kr_ret (fun k => if k = 8 then h0 else if k = 4 then (a4 4) else if k = 26 then (a4 26) else if k = 2 then (a4 2) else if k = 0 then (a4 0) else if k = 10 then (a4 10) else if k = 11 then (a4 11) else if k = 12 then (a4 12) else if k = 13 then (a4 13) else if k = 14 then (a4 14) else if k = 5 then (a4 5) else if k = 30 then (a4 30) else if k = 31 then (a4 31) else if k = 32 then (a4 32) else if k = 1 then (a4 1) else if k = 15 then (a4 15) else if k = 16 then (a4 16) else if k = 17 then (a4 17) else if k = 18 then (a4 18) else if k = 19 then (a4 19) else if k = 20 then (a4 20) else if k = 21 then (a4 21) else if k = 22 then (a4 22) else if k = 23 then (a4 23) else if k = 27 then (a4 27) else if k = 28 then (a4 28) else if k = 29 then (a4 29) else if k = 7 then (a7 7) else if k = 40 then (a7 40) else if k = 41 then (a7 41) else if k = 42 then (a7 42) else if k = 43 then (a7 43) else if k = 3 then (a3 3) else if k = 24 then (a3 24) else if k = 25 then (a3 25) else if k = 6 then (a6 6) else if k = 33 then (a6 33) else if k = 34 then (a6 34) else if k = 35 then (a6 35) else if k = 36 then (a6 36) else if k = 37 then (a6 37) else if k = 38 then (a6 38) else if k = 39 then (a6 39) else if k = 44 then q44 else 0) B dX8_init_110 hq rfl rfl
