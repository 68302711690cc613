def md_X0_init : ax_Md := (yX0_init, cX0_init, 1, none)
theorem in_0 : ax_ci md_X0_init := ⟨⟨ax_in 102 (by decide +kernel) rfl, ax_in 68 (by decide +kernel) rfl, ⟨by decide, by decide⟩, by decide +kernel, by decide⟩, ax_in 101 (by decide +kernel) rfl, rfl⟩
theorem lo_0 : Cond.methodLink RX0 3 Lib.objectInit ∈ ax_big := ax_in 103 (by decide +kernel) rfl
theorem is_0 : Cond.instantiable RX0 11 ∈ ax_big := ax_in 99 (by decide +kernel) rfl
theorem ii_0 : Cond.initialized RX0 ∈ ax_big := ax_in 68 (by decide +kernel) rfl
def df_0 : List Value := [.null, .null, .null, .null, .null, .int 0, .int 0, .int 0, .int 0, .int 0, .int 0]
theorem dd_0 : ∀ j, j < 11 → defaultValue (tyX0 j) = vp_V df_0 j := fun j hj => by
  match j, hj with
  | 0, _ => rfl
  | 1, _ => rfl
  | 2, _ => rfl
  | 3, _ => rfl
  | 4, _ => rfl
  | 5, _ => rfl
  | 6, _ => rfl
  | 7, _ => rfl
  | 8, _ => rfl
  | 9, _ => rfl
  | 10, _ => rfl
  | j + 11, hj => exact absurd hj (by omega)
def md_X1_init : ax_Md := (yX1_init, cX1_init, 2, none)
theorem in_1 : ax_ci md_X1_init := ⟨⟨ax_in 199 (by decide +kernel) rfl, ax_in 70 (by decide +kernel) rfl, ⟨by decide, by decide⟩, by decide +kernel, by decide⟩, ax_in 198 (by decide +kernel) rfl, rfl⟩
theorem lo_1 : Cond.methodLink RX1 3 Lib.objectInit ∈ ax_big := ax_in 200 (by decide +kernel) rfl
theorem is_1 : Cond.instantiable RX1 3 ∈ ax_big := ax_in 196 (by decide +kernel) rfl
theorem ii_1 : Cond.initialized RX1 ∈ ax_big := ax_in 70 (by decide +kernel) rfl
def df_1 : List Value := [.null, .null, .null]
theorem dd_1 : ∀ j, j < 3 → defaultValue (tyX1 j) = vp_V df_1 j := fun j hj => by
  match j, hj with
  | 0, _ => rfl
  | 1, _ => rfl
  | 2, _ => rfl
  | j + 3, hj => exact absurd hj (by omega)
def md_X2_init : ax_Md := (yX2_init, cX2_init, 1, none)
theorem in_2 : ax_ci md_X2_init := ⟨⟨ax_in 96 (by decide +kernel) rfl, ax_in 67 (by decide +kernel) rfl, ⟨by decide, by decide⟩, by decide +kernel, by decide⟩, ax_in 95 (by decide +kernel) rfl, rfl⟩
theorem lo_2 : Cond.methodLink RX2 3 Lib.objectInit ∈ ax_big := ax_in 97 (by decide +kernel) rfl
theorem is_2 : Cond.instantiable RX2 9 ∈ ax_big := ax_in 93 (by decide +kernel) rfl
theorem ii_2 : Cond.initialized RX2 ∈ ax_big := ax_in 67 (by decide +kernel) rfl
def df_2 : List Value := [.null, .null, .null, .null, .null, .null, .null, .null, .null]
theorem dd_2 : ∀ j, j < 9 → defaultValue (tyX2 j) = vp_V df_2 j := fun j hj => by
  match j, hj with
  | 0, _ => rfl
  | 1, _ => rfl
  | 2, _ => rfl
  | 3, _ => rfl
  | 4, _ => rfl
  | 5, _ => rfl
  | 6, _ => rfl
  | 7, _ => rfl
  | 8, _ => rfl
  | j + 9, hj => exact absurd hj (by omega)
def md_X3_init : ax_Md := (yX3_init, cX3_init, 1, none)
theorem in_3 : ax_ci md_X3_init := ⟨⟨ax_in 312 (by decide +kernel) rfl, ax_in 72 (by decide +kernel) rfl, ⟨by decide, by decide⟩, by decide +kernel, by decide⟩, ax_in 311 (by decide +kernel) rfl, rfl⟩
theorem lo_3 : Cond.methodLink RX3 3 Lib.objectInit ∈ ax_big := ax_in 313 (by decide +kernel) rfl
theorem is_3 : Cond.instantiable RX3 3 ∈ ax_big := ax_in 309 (by decide +kernel) rfl
theorem ii_3 : Cond.initialized RX3 ∈ ax_big := ax_in 72 (by decide +kernel) rfl
def df_3 : List Value := [.int 0, .null, .null]
theorem dd_3 : ∀ j, j < 3 → defaultValue (tyX3 j) = vp_V df_3 j := fun j hj => by
  match j, hj with
  | 0, _ => rfl
  | 1, _ => rfl
  | 2, _ => rfl
  | j + 3, hj => exact absurd hj (by omega)
def md_X4_init : ax_Md := (yX4_init, cX4_init, 1, none)
theorem in_4 : ax_ci md_X4_init := ⟨⟨ax_in 90 (by decide +kernel) rfl, ax_in 66 (by decide +kernel) rfl, ⟨by decide, by decide⟩, by decide +kernel, by decide⟩, ax_in 89 (by decide +kernel) rfl, rfl⟩
theorem lo_4 : Cond.methodLink RX4 3 Lib.objectInit ∈ ax_big := ax_in 91 (by decide +kernel) rfl
theorem is_4 : Cond.instantiable RX4 8 ∈ ax_big := ax_in 87 (by decide +kernel) rfl
theorem ii_4 : Cond.initialized RX4 ∈ ax_big := ax_in 66 (by decide +kernel) rfl
def df_4 : List Value := [.null, .int 0, .int 0, .null, .null, .null, .null, .int 0]
theorem dd_4 : ∀ j, j < 8 → defaultValue (tyX4 j) = vp_V df_4 j := fun j hj => by
  match j, hj with
  | 0, _ => rfl
  | 1, _ => rfl
  | 2, _ => rfl
  | 3, _ => rfl
  | 4, _ => rfl
  | 5, _ => rfl
  | 6, _ => rfl
  | 7, _ => rfl
  | j + 8, hj => exact absurd hj (by omega)
def md_X5_init : ax_Md := (yX5_init, cX5_init, 1, none)
theorem in_5 : ax_ci md_X5_init := ⟨⟨ax_in 158 (by decide +kernel) rfl, ax_in 69 (by decide +kernel) rfl, ⟨by decide, by decide⟩, by decide +kernel, by decide⟩, ax_in 157 (by decide +kernel) rfl, rfl⟩
theorem lo_5 : Cond.methodLink RX5 3 Lib.objectInit ∈ ax_big := ax_in 159 (by decide +kernel) rfl
theorem is_5 : Cond.instantiable RX5 10 ∈ ax_big := ax_in 155 (by decide +kernel) rfl
theorem ii_5 : Cond.initialized RX5 ∈ ax_big := ax_in 69 (by decide +kernel) rfl
def df_5 : List Value := [.int 0, .int 0, .int 0, .null, .null, .null, .int 0, .int 0, .int 0, .int 0]
theorem dd_5 : ∀ j, j < 10 → defaultValue (tyX5 j) = vp_V df_5 j := fun j hj => by
  match j, hj with
  | 0, _ => rfl
  | 1, _ => rfl
  | 2, _ => rfl
  | 3, _ => rfl
  | 4, _ => rfl
  | 5, _ => rfl
  | 6, _ => rfl
  | 7, _ => rfl
  | 8, _ => rfl
  | 9, _ => rfl
  | j + 10, hj => exact absurd hj (by omega)
def md_X6_init : ax_Md := (yX6_init, cX6_init, 2, none)
theorem in_6 : ax_ci md_X6_init := ⟨⟨ax_in 329 (by decide +kernel) rfl, ax_in 73 (by decide +kernel) rfl, ⟨by decide, by decide⟩, by decide +kernel, by decide⟩, ax_in 328 (by decide +kernel) rfl, rfl⟩
theorem lo_6 : Cond.methodLink RX6 3 Lib.objectInit ∈ ax_big := ax_in 330 (by decide +kernel) rfl
theorem is_6 : Cond.instantiable RX6 4 ∈ ax_big := ax_in 326 (by decide +kernel) rfl
theorem ii_6 : Cond.initialized RX6 ∈ ax_big := ax_in 73 (by decide +kernel) rfl
def df_6 : List Value := [.null, .null, .null, .int 0]
theorem dd_6 : ∀ j, j < 4 → defaultValue (tyX6 j) = vp_V df_6 j := fun j hj => by
  match j, hj with
  | 0, _ => rfl
  | 1, _ => rfl
  | 2, _ => rfl
  | 3, _ => rfl
  | j + 4, hj => exact absurd hj (by omega)
def md_X7_init : ax_Md := (yX7_init, cX7_init, 1, none)
theorem in_7 : ax_ci md_X7_init := ⟨⟨ax_in 283 (by decide +kernel) rfl, ax_in 71 (by decide +kernel) rfl, ⟨by decide, by decide⟩, by decide +kernel, by decide⟩, ax_in 282 (by decide +kernel) rfl, rfl⟩
theorem lo_7 : Cond.methodLink RX7 1 Lib.objectInit ∈ ax_big := ax_in 284 (by decide +kernel) rfl
theorem is_7 : Cond.instantiable RX7 7 ∈ ax_big := ax_in 280 (by decide +kernel) rfl
theorem ii_7 : Cond.initialized RX7 ∈ ax_big := ax_in 71 (by decide +kernel) rfl
def df_7 : List Value := [.int 0, .null, .null, .null, .null, .int 0, .int 0]
theorem dd_7 : ∀ j, j < 7 → defaultValue (tyX7 j) = vp_V df_7 j := fun j hj => by
  match j, hj with
  | 0, _ => rfl
  | 1, _ => rfl
  | 2, _ => rfl
  | 3, _ => rfl
  | 4, _ => rfl
  | 5, _ => rfl
  | 6, _ => rfl
  | j + 7, hj => exact absurd hj (by omega)
def md_X8_init : ax_Md := (yX8_init, cX8_init, 1, none)
theorem in_8 : ax_ci md_X8_init := ⟨⟨ax_in 82 (by decide +kernel) rfl, ax_in 65 (by decide +kernel) rfl, ⟨by decide, by decide⟩, by decide +kernel, by decide⟩, ax_in 81 (by decide +kernel) rfl, rfl⟩
theorem lo_8 : Cond.methodLink RX8 1 Lib.objectInit ∈ ax_big := ax_in 83 (by decide +kernel) rfl
theorem is_8 : Cond.instantiable RX8 11 ∈ ax_big := ax_in 79 (by decide +kernel) rfl
theorem ii_8 : Cond.initialized RX8 ∈ ax_big := ax_in 65 (by decide +kernel) rfl
def df_8 : List Value := [.null, .null, .null, .null, .null, .null, .null, .null, .null, .int 0, .int 0]
theorem dd_8 : ∀ j, j < 11 → defaultValue (tyX8 j) = vp_V df_8 j := fun j hj => by
  match j, hj with
  | 0, _ => rfl
  | 1, _ => rfl
  | 2, _ => rfl
  | 3, _ => rfl
  | 4, _ => rfl
  | 5, _ => rfl
  | 6, _ => rfl
  | 7, _ => rfl
  | 8, _ => rfl
  | 9, _ => rfl
  | 10, _ => rfl
  | j + 11, hj => exact absurd hj (by omega)
def md_X9_init : ax_Md := (yX9_init, cX9_init, 2, none)
theorem in_9 : ax_ci md_X9_init := ⟨⟨ax_in 925 (by decide +kernel) rfl, ax_in 74 (by decide +kernel) rfl, ⟨by decide, by decide⟩, by decide +kernel, by decide⟩, ax_in 924 (by decide +kernel) rfl, rfl⟩
theorem lo_9 : Cond.methodLink RX9 1 Lib.objectInit ∈ ax_big := ax_in 926 (by decide +kernel) rfl
theorem is_9 : Cond.instantiable RX9 39 ∈ ax_big := ax_in 922 (by decide +kernel) rfl
theorem ii_9 : Cond.initialized RX9 ∈ ax_big := ax_in 74 (by decide +kernel) rfl
def df_9 : List Value := [.null, .null, .int 0, .null, .null, .null, .null, .null, .int 0, .null, .null, .null, .null, .null, .null, .null, .null, .null, .null, .null, .null, .null, .int 0, .int 0, .int 0, .int 0, .int 0, .null, .null, .null, .int 0, .null, .null, .null, .null, .null, .null, .null, .int 0]
theorem dd_9 : ∀ j, j < 39 → defaultValue (tyX9 j) = vp_V df_9 j := fun j hj => by
  match j, hj with
  | 0, _ => rfl
  | 1, _ => rfl
  | 2, _ => rfl
  | 3, _ => rfl
  | 4, _ => rfl
  | 5, _ => rfl
  | 6, _ => rfl
  | 7, _ => rfl
  | 8, _ => rfl
  | 9, _ => rfl
  | 10, _ => rfl
  | 11, _ => rfl
  | 12, _ => rfl
  | 13, _ => rfl
  | 14, _ => rfl
  | 15, _ => rfl
  | 16, _ => rfl
  | 17, _ => rfl
  | 18, _ => rfl
  | 19, _ => rfl
  | 20, _ => rfl
  | 21, _ => rfl
  | 22, _ => rfl
  | 23, _ => rfl
  | 24, _ => rfl
  | 25, _ => rfl
  | 26, _ => rfl
  | 27, _ => rfl
  | 28, _ => rfl
  | 29, _ => rfl
  | 30, _ => rfl
  | 31, _ => rfl
  | 32, _ => rfl
  | 33, _ => rfl
  | 34, _ => rfl
  | 35, _ => rfl
  | 36, _ => rfl
  | 37, _ => rfl
  | 38, _ => rfl
  | j + 39, hj => exact absurd hj (by omega)
theorem li_L_9 : Cond.methodLink RL 9 yX8_init ∈ ax_big := ax_in 80 (by decide +kernel) rfl
theorem li_8_9 : Cond.methodLinkNest RX8 9 yX4_init "SecondChances" ∈ ax_nw := ax_inN 88 (by decide +kernel) rfl
theorem li_4_17 : Cond.methodLinkNest RX4 17 yX2_init "SecondChances" ∈ ax_nw := ax_inN 94 (by decide +kernel) rfl
theorem li_2_11 : Cond.methodLinkNest RX2 11 yX0_init "SecondChances" ∈ ax_nw := ax_inN 100 (by decide +kernel) rfl
theorem li_2_20 : Cond.methodLinkNest RX2 20 yX5_init "SecondChances" ∈ ax_nw := ax_inN 156 (by decide +kernel) rfl
theorem li_2_27 : Cond.methodLink RX2 27 yX1_init ∈ ax_big := ax_in 197 (by decide +kernel) rfl
theorem li_8_44 : Cond.methodLinkNest RX8 44 yX7_init "SecondChances" ∈ ax_nw := ax_inN 281 (by decide +kernel) rfl
theorem li_8_51 : Cond.methodLinkNest RX8 51 yX3_init "SecondChances" ∈ ax_nw := ax_inN 310 (by decide +kernel) rfl
theorem li_8_58 : Cond.methodLink RX8 58 yX6_init ∈ ax_big := ax_in 327 (by decide +kernel) rfl
theorem li_L_12 : Cond.methodLink RL 12 yX9_init ∈ ax_big := ax_in 923 (by decide +kernel) rfl
theorem lc_L_7 : Cond.classLink RL 7 RX8 ∈ ax_big := ax_in 78 (by decide +kernel) rfl
theorem lc_8_7 : Cond.classLink RX8 7 RX4 ∈ ax_big := ax_in 86 (by decide +kernel) rfl
theorem lc_4_15 : Cond.classLink RX4 15 RX2 ∈ ax_big := ax_in 92 (by decide +kernel) rfl
theorem lc_2_9 : Cond.classLink RX2 9 RX0 ∈ ax_big := ax_in 98 (by decide +kernel) rfl
theorem lc_2_18 : Cond.classLink RX2 18 RX5 ∈ ax_big := ax_in 154 (by decide +kernel) rfl
theorem lc_2_25 : Cond.classLink RX2 25 RX1 ∈ ax_big := ax_in 195 (by decide +kernel) rfl
theorem lc_8_42 : Cond.classLink RX8 42 RX7 ∈ ax_big := ax_in 279 (by decide +kernel) rfl
theorem lc_8_49 : Cond.classLink RX8 49 RX3 ∈ ax_big := ax_in 308 (by decide +kernel) rfl
theorem lc_8_56 : Cond.classLink RX8 56 RX6 ∈ ax_big := ax_in 325 (by decide +kernel) rfl
theorem lc_L_10 : Cond.classLink RL 10 RX9 ∈ ax_big := ax_in 921 (by decide +kernel) rfl
/-! loops that fill rows -/
def fN (i : Nat) : Nat → Int32 := fun j => if j < 4 * i then (if j % 4 = 1 then ax_i 8 else if j % 4 = 2 then ax_i 1 else if j % 4 = 3 then ax_i 16 else 0) else 0
theorem fN_0 : (fun _ => 0) = fN 0 := by
  funext j
  unfold fN
  rw [if_neg (by omega)]
theorem fN_s (i : Nat) : upd (upd (upd (fN i) (4 * i + 1) (ax_i 8)) (4 * i + 2) (ax_i 1)) (4 * i + 3) (ax_i 16) = fN (i + 1) := by
  funext j
  unfold upd fN
  by_cases h3 : j = 4 * i + 3
  · rw [if_pos h3, if_pos (by omega), if_neg (by omega), if_neg (by omega), if_pos (by omega)]
  · rw [if_neg h3]
    by_cases h2 : j = 4 * i + 2
    · rw [if_pos h2, if_pos (by omega), if_neg (by omega), if_pos (by omega)]
    · rw [if_neg h2]
      by_cases h1 : j = 4 * i + 1
      · rw [if_pos h1, if_pos (by omega), if_pos (by omega)]
      · rw [if_neg h1]
        by_cases h0 : j = 4 * i
        · rw [if_neg (by omega), if_pos (by omega), if_neg (by omega), if_neg (by omega), if_neg (by omega)]
        · by_cases hl : j < 4 * i
          · rw [if_pos hl, if_pos (show j < 4 * (i + 1) by omega)]
          · rw [if_neg hl, if_neg (show ¬ j < 4 * (i + 1) by omega)]
theorem fN_8 : fN 8 = fun j : Nat => ax_i (M0 15 j) := by
  funext j
  show _ = ax_i (tr0 j)
  unfold fN tr0
  by_cases h : j < 32
  · rw [if_pos (show j < 4 * 8 by omega), if_pos (show 0 ≤ (j : Int) ∧ (j : Int) < 32 by omega)]
    by_cases h1 : j % 4 = 1
    · rw [if_pos h1, if_pos (show (j : Int) % 4 = 1 by omega)]
    · rw [if_neg h1, if_neg (show ¬ (j : Int) % 4 = 1 by omega)]
      by_cases h2 : j % 4 = 2
      · rw [if_pos h2, if_pos (show (j : Int) % 4 = 2 by omega)]
      · rw [if_neg h2, if_neg (show ¬ (j : Int) % 4 = 2 by omega)]
        by_cases h3 : j % 4 = 3
        · rw [if_pos h3, if_pos (show (j : Int) % 4 = 3 by omega)]
        · rw [if_neg h3, if_neg (show ¬ (j : Int) % 4 = 3 by omega)]
          rfl
  · rw [if_neg (show ¬ j < 4 * 8 by omega), if_neg (show ¬ (0 ≤ (j : Int) ∧ (j : Int) < 32) by omega)]
    rfl
def fF (v : Int32) (i : Nat) : Nat → Int32 := fun j => if j < i then v else 0
theorem fF_0 (v : Int32) : (fun _ => 0) = fF v 0 := by
  funext j
  unfold fF
  rw [if_neg (by omega)]
theorem fF_s (v : Int32) (i : Nat) : upd (fF v i) i v = fF v (i + 1) := by
  funext j
  unfold upd fF
  by_cases h : j = i
  · rw [if_pos h, if_pos (by omega)]
  · rw [if_neg h]
    by_cases hl : j < i
    · rw [if_pos hl, if_pos (by omega)]
    · rw [if_neg hl, if_neg (by omega)]
theorem fF_e (z : Int) (n : Nat) : fF (ax_i z) n = fun j : Nat => ax_i (if 0 ≤ (j : Int) ∧ (j : Int) < n then z else 0) := by
  funext j
  unfold fF
  by_cases h : j < n
  · rw [if_pos h, if_pos (by omega)]
  · rw [if_neg h, if_neg (by omega)]
    rfl
theorem fS : upd (upd (upd (fun _ => 0) (Int.toNat 0) (ax_i 9)) (Int.toNat 2) (ax_i 999)) (Int.toNat 3) (ax_i 6) = fun j : Nat => ax_i (se0 j) := by
  funext j
  match j with
  | 0 => rfl
  | 1 => rfl
  | 2 => rfl
  | 3 => rfl
  | j + 4 =>
    show upd (upd (upd (fun _ => 0) 0 (ax_i 9)) 2 (ax_i 999)) 3 (ax_i 6) (j + 4) = ax_i (se0 ((j + 4 : Nat) : Int))
    unfold upd se0
    rw [if_neg (by omega), if_neg (by omega), if_neg (by omega), if_neg (by omega), if_neg (by omega), if_neg (by omega)]
    rfl
set_option maxHeartbeats 4000000 in
set_option maxRecDepth 100000 in
theorem it_0 (g : ax_G) : IT g md_X0_init 1 5 40 0 df_0 [0, 10, 11, 12, 13, 14] := by
  refine it_intro (by decide) rfl (by decide) ?_
  intro X A h0 hg hnL B hin hq
  subst hg
  show KW X A 0 0 0 [(0, .ref h0)] [] [(h0, .inr (0, df_0))]
  refine kr_aload0 B dX0_init_0 ?_
  refine kr_obj B dX0_init_1 lo_0 (by decide) ?_
  refine kr_aload0 B dX0_init_4 ?_
  refine kr_bipush (z := 8) B dX0_init_5 (by decide) ?_
  refine kr_newI (N := 8) B dX0_init_7 (by decide) (by decide) (Nat.le_of_ble_eq_true rfl) (Nat.le_of_ble_eq_true rfl) (Nat.le_of_ble_eq_true rfl) (fun q10 => ?_)
  refine kr_putF (t := .array .int) B hin dX0_init_9 fl_0_9 (fun T C N h => by cases h; exact ⟨rfl, rfl, by decide +kernel⟩) rfl rfl (Nat.le_of_ble_eq_true rfl) ?_
  show KW X A 1 8 12 [(0, .ref h0)] [] ((h0, .inr (0, [.ref q10, .null, .null, .null, .null, .int 0, .int 0, .int 0, .int 0, .int 0, .int 0])) :: ([(q10, .inl (X.g.cI, 8, .inl (fun _ => 0)))]))
  refine kr_aload0 B dX0_init_12 ?_
  refine kr_bipush (z := 8) B dX0_init_13 (by decide) ?_
  refine kr_newI (N := 8) B dX0_init_15 (by decide) (by decide) (Nat.le_of_ble_eq_true rfl) (Nat.le_of_ble_eq_true rfl) (Nat.le_of_ble_eq_true rfl) (fun q11 => ?_)
  refine kr_putF (t := .array .int) B hin dX0_init_17 fl_0_15 (fun T C N h => by cases h; exact ⟨rfl, rfl, by decide +kernel⟩) rfl rfl (Nat.le_of_ble_eq_true rfl) ?_
  show KW X A 2 16 20 [(0, .ref h0)] [] ((h0, .inr (0, [.ref q10, .ref q11, .null, .null, .null, .int 0, .int 0, .int 0, .int 0, .int 0, .int 0])) :: ([(q10, .inl (X.g.cI, 8, .inl (fun _ => 0))), (q11, .inl (X.g.cI, 8, .inl (fun _ => 0)))]))
  refine kr_aload0 B dX0_init_20 ?_
  refine kr_bipush (z := 8) B dX0_init_21 (by decide) ?_
  refine kr_newI (N := 8) B dX0_init_23 (by decide) (by decide) (Nat.le_of_ble_eq_true rfl) (Nat.le_of_ble_eq_true rfl) (Nat.le_of_ble_eq_true rfl) (fun q12 => ?_)
  refine kr_putF (t := .array .int) B hin dX0_init_25 fl_0_18 (fun T C N h => by cases h; exact ⟨rfl, rfl, by decide +kernel⟩) rfl rfl (Nat.le_of_ble_eq_true rfl) ?_
  show KW X A 3 24 28 [(0, .ref h0)] [] ((h0, .inr (0, [.ref q10, .ref q11, .ref q12, .null, .null, .int 0, .int 0, .int 0, .int 0, .int 0, .int 0])) :: ([(q10, .inl (X.g.cI, 8, .inl (fun _ => 0))), (q11, .inl (X.g.cI, 8, .inl (fun _ => 0))), (q12, .inl (X.g.cI, 8, .inl (fun _ => 0)))]))
  refine kr_aload0 B dX0_init_28 ?_
  refine kr_bipush (z := 8) B dX0_init_29 (by decide) ?_
  refine kr_newI (N := 8) B dX0_init_31 (by decide) (by decide) (Nat.le_of_ble_eq_true rfl) (Nat.le_of_ble_eq_true rfl) (Nat.le_of_ble_eq_true rfl) (fun q13 => ?_)
  refine kr_putF (t := .array .int) B hin dX0_init_33 fl_0_21 (fun T C N h => by cases h; exact ⟨rfl, rfl, by decide +kernel⟩) rfl rfl (Nat.le_of_ble_eq_true rfl) ?_
  show KW X A 4 32 36 [(0, .ref h0)] [] ((h0, .inr (0, [.ref q10, .ref q11, .ref q12, .ref q13, .null, .int 0, .int 0, .int 0, .int 0, .int 0, .int 0])) :: ([(q10, .inl (X.g.cI, 8, .inl (fun _ => 0))), (q11, .inl (X.g.cI, 8, .inl (fun _ => 0))), (q12, .inl (X.g.cI, 8, .inl (fun _ => 0))), (q13, .inl (X.g.cI, 8, .inl (fun _ => 0)))]))
  refine kr_aload0 B dX0_init_36 ?_
  refine kr_bipush (z := 8) B dX0_init_37 (by decide) ?_
  refine kr_newI (N := 8) B dX0_init_39 (by decide) (by decide) (Nat.le_of_ble_eq_true rfl) (Nat.le_of_ble_eq_true rfl) (Nat.le_of_ble_eq_true rfl) (fun q14 => ?_)
  refine kr_putF (t := .array .int) B hin dX0_init_41 fl_0_24 (fun T C N h => by cases h; exact ⟨rfl, rfl, by decide +kernel⟩) rfl rfl (Nat.le_of_ble_eq_true rfl) ?_
  show KW X A 5 40 44 [(0, .ref h0)] [] ((h0, .inr (0, [.ref q10, .ref q11, .ref q12, .ref q13, .ref q14, .int 0, .int 0, .int 0, .int 0, .int 0, .int 0])) :: ([(q10, .inl (X.g.cI, 8, .inl (fun _ => 0))), (q11, .inl (X.g.cI, 8, .inl (fun _ => 0))), (q12, .inl (X.g.cI, 8, .inl (fun _ => 0))), (q13, .inl (X.g.cI, 8, .inl (fun _ => 0))), (q14, .inl (X.g.cI, 8, .inl (fun _ => 0)))]))
  refine kr_aload0 B dX0_init_44 ?_
  refine kr_iconst (z := (-1)) B dX0_init_45 ?_
  refine kr_put (t := .int) B dX0_init_46 fl_0_27 (fun T C N h => by cases h; exact ⟨rfl, rfl, by decide +kernel⟩) rfl rfl (Nat.le_of_ble_eq_true rfl) ?_
  show KW X A 5 40 49 [(0, .ref h0)] [] ((h0, .inr (0, [.ref q10, .ref q11, .ref q12, .ref q13, .ref q14, .int 0, .int 0, .int (ax_i (-1)), .int 0, .int 0, .int 0])) :: ([(q10, .inl (X.g.cI, 8, .inl (fun _ => 0))), (q11, .inl (X.g.cI, 8, .inl (fun _ => 0))), (q12, .inl (X.g.cI, 8, .inl (fun _ => 0))), (q13, .inl (X.g.cI, 8, .inl (fun _ => 0))), (q14, .inl (X.g.cI, 8, .inl (fun _ => 0)))]))
  refine kr_aload0 B dX0_init_49 ?_
  refine kr_iconst (z := (-1)) B dX0_init_50 ?_
  refine kr_put (t := .int) B dX0_init_51 fl_0_31 (fun T C N h => by cases h; exact ⟨rfl, rfl, by decide +kernel⟩) rfl rfl (Nat.le_of_ble_eq_true rfl) ?_
  show KW X A 5 40 54 [(0, .ref h0)] [] ((h0, .inr (0, [.ref q10, .ref q11, .ref q12, .ref q13, .ref q14, .int 0, .int 0, .int (ax_i (-1)), .int 0, .int 0, .int (ax_i (-1))])) :: ([(q10, .inl (X.g.cI, 8, .inl (fun _ => 0))), (q11, .inl (X.g.cI, 8, .inl (fun _ => 0))), (q12, .inl (X.g.cI, 8, .inl (fun _ => 0))), (q13, .inl (X.g.cI, 8, .inl (fun _ => 0))), (q14, .inl (X.g.cI, 8, .inl (fun _ => 0)))]))
  exact kr_ret (fun k => if k = 0 then h0 else if k = 10 then q10 else if k = 11 then q11 else if k = 12 then q12 else if k = 13 then q13 else if k = 14 then q14 else 0) B dX0_init_54 hq rfl rfl
set_option maxHeartbeats 4000000 in
set_option maxRecDepth 100000 in
theorem it_5 (g : ax_G) : IT g md_X5_init 1 3 12 5 df_5 [5, 30, 31, 32] := by
  refine it_intro (by decide) rfl (by decide) ?_
  intro X A h0 hg hnL B hin hq
  subst hg
  show KW X A 0 0 0 [(0, .ref h0)] [] [(h0, .inr (5, df_5))]
  refine kr_aload0 B dX5_init_0 ?_
  refine kr_obj B dX5_init_1 lo_5 (by decide) ?_
  refine kr_aload0 B dX5_init_4 ?_
  refine kr_iconst (z := (-1)) B dX5_init_5 ?_
  refine kr_put (t := .int) B dX5_init_6 fl_5_9 (fun T C N h => by cases h; exact ⟨rfl, rfl, by decide +kernel⟩) rfl rfl (Nat.le_of_ble_eq_true rfl) ?_
  show KW X A 0 0 9 [(0, .ref h0)] [] ((h0, .inr (5, [.int 0, .int 0, .int (ax_i (-1)), .null, .null, .null, .int 0, .int 0, .int 0, .int 0])) :: ([]))
  refine kr_aload0 B dX5_init_9 ?_
  refine kr_iconst (z := 4) B dX5_init_10 ?_
  refine kr_newI (N := 4) B dX5_init_11 (by decide) (by decide) (Nat.le_of_ble_eq_true rfl) (Nat.le_of_ble_eq_true rfl) (Nat.le_of_ble_eq_true rfl) (fun q30 => ?_)
  refine kr_putF (t := .array .int) B hin dX5_init_13 fl_5_15 (fun T C N h => by cases h; exact ⟨rfl, rfl, by decide +kernel⟩) rfl rfl (Nat.le_of_ble_eq_true rfl) ?_
  show KW X A 1 4 16 [(0, .ref h0)] [] ((h0, .inr (5, [.int 0, .int 0, .int (ax_i (-1)), .ref q30, .null, .null, .int 0, .int 0, .int 0, .int 0])) :: ([(q30, .inl (X.g.cI, 4, .inl (fun _ => 0)))]))
  refine kr_aload0 B dX5_init_16 ?_
  refine kr_iconst (z := 4) B dX5_init_17 ?_
  refine kr_newZ (N := 4) B dX5_init_18 (by decide) (by decide) (Nat.le_of_ble_eq_true rfl) (Nat.le_of_ble_eq_true rfl) (Nat.le_of_ble_eq_true rfl) (fun q31 => ?_)
  refine kr_putF (t := .array .boolean) B hin dX5_init_20 fl_5_19 (fun T C N h => by cases h; exact ⟨rfl, rfl, by decide +kernel⟩) rfl rfl (Nat.le_of_ble_eq_true rfl) ?_
  show KW X A 2 8 23 [(0, .ref h0)] [] ((h0, .inr (5, [.int 0, .int 0, .int (ax_i (-1)), .ref q30, .ref q31, .null, .int 0, .int 0, .int 0, .int 0])) :: ([(q30, .inl (X.g.cI, 4, .inl (fun _ => 0))), (q31, .inl (X.g.cZ, 4, .inl (fun _ => 0)))]))
  refine kr_aload0 B dX5_init_23 ?_
  refine kr_iconst (z := 4) B dX5_init_24 ?_
  refine kr_newZ (N := 4) B dX5_init_25 (by decide) (by decide) (Nat.le_of_ble_eq_true rfl) (Nat.le_of_ble_eq_true rfl) (Nat.le_of_ble_eq_true rfl) (fun q32 => ?_)
  refine kr_putF (t := .array .boolean) B hin dX5_init_27 fl_5_23 (fun T C N h => by cases h; exact ⟨rfl, rfl, by decide +kernel⟩) rfl rfl (Nat.le_of_ble_eq_true rfl) ?_
  show KW X A 3 12 30 [(0, .ref h0)] [] ((h0, .inr (5, [.int 0, .int 0, .int (ax_i (-1)), .ref q30, .ref q31, .ref q32, .int 0, .int 0, .int 0, .int 0])) :: ([(q30, .inl (X.g.cI, 4, .inl (fun _ => 0))), (q31, .inl (X.g.cZ, 4, .inl (fun _ => 0))), (q32, .inl (X.g.cZ, 4, .inl (fun _ => 0)))]))
  refine kr_aload0 B dX5_init_30 ?_
  refine kr_iconst (z := (-1)) B dX5_init_31 ?_
  refine kr_put (t := .int) B dX5_init_32 fl_5_26 (fun T C N h => by cases h; exact ⟨rfl, rfl, by decide +kernel⟩) rfl rfl (Nat.le_of_ble_eq_true rfl) ?_
  show KW X A 3 12 35 [(0, .ref h0)] [] ((h0, .inr (5, [.int 0, .int 0, .int (ax_i (-1)), .ref q30, .ref q31, .ref q32, .int 0, .int 0, .int 0, .int (ax_i (-1))])) :: ([(q30, .inl (X.g.cI, 4, .inl (fun _ => 0))), (q31, .inl (X.g.cZ, 4, .inl (fun _ => 0))), (q32, .inl (X.g.cZ, 4, .inl (fun _ => 0)))]))
  exact kr_ret (fun k => if k = 5 then h0 else if k = 30 then q30 else if k = 31 then q31 else if k = 32 then q32 else 0) B dX5_init_35 hq rfl rfl
set_option maxHeartbeats 4000000 in
set_option maxRecDepth 100000 in
theorem it_1 (g : ax_G) : IT g md_X1_init 1 3 44 1 df_1 [1, 15, 16, 17] := by
  refine it_intro (by decide) rfl (by decide) ?_
  intro X A h0 hg hnL B hin hq
  subst hg
  show KW X A 0 0 0 [(0, .ref h0)] [] [(h0, .inr (1, df_1))]
  refine kr_aload0 B dX1_init_0 ?_
  refine kr_obj B dX1_init_1 lo_1 (by decide) ?_
  refine kr_aload0 B dX1_init_4 ?_
  refine kr_bipush (z := 32) B dX1_init_5 (by decide) ?_
  refine kr_newI (N := 32) B dX1_init_7 (by decide) (by decide) (Nat.le_of_ble_eq_true rfl) (Nat.le_of_ble_eq_true rfl) (Nat.le_of_ble_eq_true rfl) (fun q15 => ?_)
  refine kr_putF (t := .array .int) B hin dX1_init_9 fl_1_11 (fun T C N h => by cases h; exact ⟨rfl, rfl, by decide +kernel⟩) rfl rfl (Nat.le_of_ble_eq_true rfl) ?_
  show KW X A 1 32 12 [(0, .ref h0)] [] ((h0, .inr (1, [.ref q15, .null, .null])) :: ([(q15, .inl (X.g.cI, 32, .inl (fun _ => 0)))]))
  refine kr_aload0 B dX1_init_12 ?_
  refine kr_bipush (z := 8) B dX1_init_13 (by decide) ?_
  refine kr_newI (N := 8) B dX1_init_15 (by decide) (by decide) (Nat.le_of_ble_eq_true rfl) (Nat.le_of_ble_eq_true rfl) (Nat.le_of_ble_eq_true rfl) (fun q16 => ?_)
  refine kr_putF (t := .array .int) B hin dX1_init_17 fl_1_15 (fun T C N h => by cases h; exact ⟨rfl, rfl, by decide +kernel⟩) rfl rfl (Nat.le_of_ble_eq_true rfl) ?_
  show KW X A 2 40 20 [(0, .ref h0)] [] ((h0, .inr (1, [.ref q15, .ref q16, .null])) :: ([(q15, .inl (X.g.cI, 32, .inl (fun _ => 0))), (q16, .inl (X.g.cI, 8, .inl (fun _ => 0)))]))
  refine kr_aload0 B dX1_init_20 ?_
  refine kr_iconst (z := 4) B dX1_init_21 ?_
  refine kr_newI (N := 4) B dX1_init_22 (by decide) (by decide) (Nat.le_of_ble_eq_true rfl) (Nat.le_of_ble_eq_true rfl) (Nat.le_of_ble_eq_true rfl) (fun q17 => ?_)
  refine kr_putF (t := .array .int) B hin dX1_init_24 fl_1_18 (fun T C N h => by cases h; exact ⟨rfl, rfl, by decide +kernel⟩) rfl rfl (Nat.le_of_ble_eq_true rfl) ?_
  show KW X A 3 44 27 [(0, .ref h0)] [] ((h0, .inr (1, [.ref q15, .ref q16, .ref q17])) :: ([(q15, .inl (X.g.cI, 32, .inl (fun _ => 0))), (q16, .inl (X.g.cI, 8, .inl (fun _ => 0))), (q17, .inl (X.g.cI, 4, .inl (fun _ => 0)))]))
  refine kr_iconst (z := 0) B dX1_init_27 ?_
  refine kr_istore1 (z := 0) B hnL dX1_init_28 ?_
  have lp : ∀ n i : Nat, ∀ f : Nat → Int32, i + n = 8 → f = fN i → KW X A 3 44 29 [(0, .ref h0), (1, .int (ax_i (i : Int)))] [] [(h0, .inr (1, [.ref q15, .ref q16, .ref q17])), (q15, .inl (X.g.cI, 32, .inl (f))), (q16, .inl (X.g.cI, 8, .inl (fun _ => 0))), (q17, .inl (X.g.cI, 4, .inl (fun _ => 0)))] := by
    intro n
    induction n with
    | zero =>
      intro i f hi hf
      obtain rfl : i = 8 := by omega
      subst hf
      refine kr_iload1 B dX1_init_29 ?_
      refine kr_bipush (z := 8) B dX1_init_30 (by decide) ?_
      refine kr_icmpge 76 B dX1_init_32 (by decide) (by omega) (fun _ => ?_) (fun h => absurd h (by omega))
      refine kr_aload0 B dX1_init_76 ?_
      refine kr_get (q0 := 0) (v := .ref q17) B dX1_init_77 fl_1_18 rfl rfl ?_
      refine kr_iconst (z := 0) B dX1_init_80 ?_
      refine kr_bipush (z := 9) B dX1_init_81 (by decide) ?_
      refine kr_iast (q0 := 3) (N := 4) (i := 0) (z := 9) B dX1_init_83 rfl (by decide) (by decide) ?_
      refine kr_aload0 B dX1_init_84 ?_
      refine kr_get (q0 := 0) (v := .ref q17) B dX1_init_85 fl_1_18 rfl rfl ?_
      refine kr_iconst (z := 2) B dX1_init_88 ?_
      refine kr_sipush (z := 999) B dX1_init_89 (by decide) ?_
      refine kr_iast (q0 := 3) (N := 4) (i := 2) (z := 999) B dX1_init_92 rfl (by decide) (by decide) ?_
      refine kr_aload0 B dX1_init_93 ?_
      refine kr_get (q0 := 0) (v := .ref q17) B dX1_init_94 fl_1_18 rfl rfl ?_
      refine kr_iconst (z := 3) B dX1_init_97 ?_
      refine kr_bipush (z := 6) B dX1_init_98 (by decide) ?_
      refine kr_iast (q0 := 3) (N := 4) (i := 3) (z := 6) B dX1_init_100 rfl (by decide) (by decide) ?_
      refine kr_ret (fun k => if k = 1 then h0 else if k = 15 then q15 else if k = 16 then q16 else if k = 17 then q17 else 0) B dX1_init_101 hq rfl ?_
      show ([(h0, .inr (1, [.ref q15, .ref q16, .ref q17])), (q15, .inl (X.g.cI, 32, .inl (fN 8))), (q16, .inl (X.g.cI, 8, .inl (fun _ => 0))), (q17, .inl (X.g.cI, 4, .inl (upd (upd (upd (fun _ => 0) (Int.toNat 0) (ax_i 9)) (Int.toNat 2) (ax_i 999)) (Int.toNat 3) (ax_i 6))))] : va_W) = _
      rw [fN_8, fS]
      rfl
    | succ n ih =>
      intro i f hi hf
      refine kr_iload1 B dX1_init_29 ?_
      refine kr_bipush (z := 8) B dX1_init_30 (by decide) ?_
      refine kr_icmpge 76 B dX1_init_32 (by decide) (by omega) (fun h => absurd h (by omega)) (fun h => ?_)
      refine kr_aload0 B dX1_init_35 ?_
      refine kr_get (q0 := 0) (v := .ref q15) B dX1_init_36 fl_1_11 rfl rfl ?_
      refine kr_iload1 B dX1_init_39 ?_
      refine kr_iconst (z := 4) B dX1_init_40 ?_
      refine kr_imul B dX1_init_41 ?_
      refine kr_iconst (z := 1) B dX1_init_42 ?_
      refine kr_iadd B dX1_init_43 ?_
      refine kr_bipush (z := 8) B dX1_init_44 (by decide) ?_
      refine kr_iast (q0 := 1) (N := 32) (i := (i : Int) * 4 + 1) (z := 8) B dX1_init_46 rfl (by decide) (by omega) ?_
      refine kr_aload0 B dX1_init_47 ?_
      refine kr_get (q0 := 0) (v := .ref q15) B dX1_init_48 fl_1_11 rfl rfl ?_
      refine kr_iload1 B dX1_init_51 ?_
      refine kr_iconst (z := 4) B dX1_init_52 ?_
      refine kr_imul B dX1_init_53 ?_
      refine kr_iconst (z := 2) B dX1_init_54 ?_
      refine kr_iadd B dX1_init_55 ?_
      refine kr_iconst (z := 1) B dX1_init_56 ?_
      refine kr_iast (q0 := 1) (N := 32) (i := (i : Int) * 4 + 2) (z := 1) B dX1_init_57 rfl (by decide) (by omega) ?_
      refine kr_aload0 B dX1_init_58 ?_
      refine kr_get (q0 := 0) (v := .ref q15) B dX1_init_59 fl_1_11 rfl rfl ?_
      refine kr_iload1 B dX1_init_62 ?_
      refine kr_iconst (z := 4) B dX1_init_63 ?_
      refine kr_imul B dX1_init_64 ?_
      refine kr_iconst (z := 3) B dX1_init_65 ?_
      refine kr_iadd B dX1_init_66 ?_
      refine kr_bipush (z := 16) B dX1_init_67 (by decide) ?_
      refine kr_iast (q0 := 1) (N := 32) (i := (i : Int) * 4 + 3) (z := 16) B dX1_init_69 rfl (by decide) (by omega) ?_
      refine kr_iinc1 (y := 1) B hnL dX1_init_70 ?_
      refine kr_goto 29 B dX1_init_73 (by decide) ?_
      refine ih (i + 1) _ (by omega) ?_
      rw [hf, show ((i : Int) * 4 + 1).toNat = 4 * i + 1 by omega, show ((i : Int) * 4 + 2).toNat = 4 * i + 2 by omega, show ((i : Int) * 4 + 3).toNat = 4 * i + 3 by omega]
      exact fN_s i
  exact lp 8 0 _ rfl fN_0
set_option maxHeartbeats 4000000 in
set_option maxRecDepth 100000 in
theorem it_7 (g : ax_G) : IT g md_X7_init 1 4 40 7 df_7 [7, 40, 41, 42, 43] := by
  refine it_intro (by decide) rfl (by decide) ?_
  intro X A h0 hg hnL B hin hq
  subst hg
  show KW X A 0 0 0 [(0, .ref h0)] [] [(h0, .inr (7, df_7))]
  refine kr_aload0 B dX7_init_0 ?_
  refine kr_obj B dX7_init_1 lo_7 (by decide) ?_
  refine kr_aload0 B dX7_init_4 ?_
  refine kr_bipush (z := 10) B dX7_init_5 (by decide) ?_
  refine kr_newI (N := 10) B dX7_init_7 (by decide) (by decide) (Nat.le_of_ble_eq_true rfl) (Nat.le_of_ble_eq_true rfl) (Nat.le_of_ble_eq_true rfl) (fun q40 => ?_)
  refine kr_putF (t := .array .int) B hin dX7_init_9 fl_7_9 (fun T C N h => by cases h; exact ⟨rfl, rfl, by decide +kernel⟩) rfl rfl (Nat.le_of_ble_eq_true rfl) ?_
  show KW X A 1 10 12 [(0, .ref h0)] [] ((h0, .inr (7, [.int 0, .ref q40, .null, .null, .null, .int 0, .int 0])) :: ([(q40, .inl (X.g.cI, 10, .inl (fun _ => 0)))]))
  refine kr_aload0 B dX7_init_12 ?_
  refine kr_bipush (z := 10) B dX7_init_13 (by decide) ?_
  refine kr_newI (N := 10) B dX7_init_15 (by decide) (by decide) (Nat.le_of_ble_eq_true rfl) (Nat.le_of_ble_eq_true rfl) (Nat.le_of_ble_eq_true rfl) (fun q41 => ?_)
  refine kr_putF (t := .array .int) B hin dX7_init_17 fl_7_13 (fun T C N h => by cases h; exact ⟨rfl, rfl, by decide +kernel⟩) rfl rfl (Nat.le_of_ble_eq_true rfl) ?_
  show KW X A 2 20 20 [(0, .ref h0)] [] ((h0, .inr (7, [.int 0, .ref q40, .ref q41, .null, .null, .int 0, .int 0])) :: ([(q40, .inl (X.g.cI, 10, .inl (fun _ => 0))), (q41, .inl (X.g.cI, 10, .inl (fun _ => 0)))]))
  refine kr_aload0 B dX7_init_20 ?_
  refine kr_bipush (z := 10) B dX7_init_21 (by decide) ?_
  refine kr_newI (N := 10) B dX7_init_23 (by decide) (by decide) (Nat.le_of_ble_eq_true rfl) (Nat.le_of_ble_eq_true rfl) (Nat.le_of_ble_eq_true rfl) (fun q42 => ?_)
  refine kr_putF (t := .array .int) B hin dX7_init_25 fl_7_16 (fun T C N h => by cases h; exact ⟨rfl, rfl, by decide +kernel⟩) rfl rfl (Nat.le_of_ble_eq_true rfl) ?_
  show KW X A 3 30 28 [(0, .ref h0)] [] ((h0, .inr (7, [.int 0, .ref q40, .ref q41, .ref q42, .null, .int 0, .int 0])) :: ([(q40, .inl (X.g.cI, 10, .inl (fun _ => 0))), (q41, .inl (X.g.cI, 10, .inl (fun _ => 0))), (q42, .inl (X.g.cI, 10, .inl (fun _ => 0)))]))
  refine kr_aload0 B dX7_init_28 ?_
  refine kr_bipush (z := 10) B dX7_init_29 (by decide) ?_
  refine kr_newI (N := 10) B dX7_init_31 (by decide) (by decide) (Nat.le_of_ble_eq_true rfl) (Nat.le_of_ble_eq_true rfl) (Nat.le_of_ble_eq_true rfl) (fun q43 => ?_)
  refine kr_putF (t := .array .int) B hin dX7_init_33 fl_7_19 (fun T C N h => by cases h; exact ⟨rfl, rfl, by decide +kernel⟩) rfl rfl (Nat.le_of_ble_eq_true rfl) ?_
  show KW X A 4 40 36 [(0, .ref h0)] [] ((h0, .inr (7, [.int 0, .ref q40, .ref q41, .ref q42, .ref q43, .int 0, .int 0])) :: ([(q40, .inl (X.g.cI, 10, .inl (fun _ => 0))), (q41, .inl (X.g.cI, 10, .inl (fun _ => 0))), (q42, .inl (X.g.cI, 10, .inl (fun _ => 0))), (q43, .inl (X.g.cI, 10, .inl (fun _ => 0)))]))
  exact kr_ret (fun k => if k = 7 then h0 else if k = 40 then q40 else if k = 41 then q41 else if k = 42 then q42 else if k = 43 then q43 else 0) B dX7_init_36 hq rfl rfl
set_option maxHeartbeats 4000000 in
set_option maxRecDepth 100000 in
theorem it_3 (g : ax_G) : IT g md_X3_init 1 2 20 3 df_3 [3, 24, 25] := by
  refine it_intro (by decide) rfl (by decide) ?_
  intro X A h0 hg hnL B hin hq
  subst hg
  show KW X A 0 0 0 [(0, .ref h0)] [] [(h0, .inr (3, df_3))]
  refine kr_aload0 B dX3_init_0 ?_
  refine kr_obj B dX3_init_1 lo_3 (by decide) ?_
  refine kr_aload0 B dX3_init_4 ?_
  refine kr_bipush (z := 10) B dX3_init_5 (by decide) ?_
  refine kr_newI (N := 10) B dX3_init_7 (by decide) (by decide) (Nat.le_of_ble_eq_true rfl) (Nat.le_of_ble_eq_true rfl) (Nat.le_of_ble_eq_true rfl) (fun q24 => ?_)
  refine kr_putF (t := .array .int) B hin dX3_init_9 fl_3_11 (fun T C N h => by cases h; exact ⟨rfl, rfl, by decide +kernel⟩) rfl rfl (Nat.le_of_ble_eq_true rfl) ?_
  show KW X A 1 10 12 [(0, .ref h0)] [] ((h0, .inr (3, [.int 0, .ref q24, .null])) :: ([(q24, .inl (X.g.cI, 10, .inl (fun _ => 0)))]))
  refine kr_aload0 B dX3_init_12 ?_
  refine kr_bipush (z := 10) B dX3_init_13 (by decide) ?_
  refine kr_newI (N := 10) B dX3_init_15 (by decide) (by decide) (Nat.le_of_ble_eq_true rfl) (Nat.le_of_ble_eq_true rfl) (Nat.le_of_ble_eq_true rfl) (fun q25 => ?_)
  refine kr_putF (t := .array .int) B hin dX3_init_17 fl_3_15 (fun T C N h => by cases h; exact ⟨rfl, rfl, by decide +kernel⟩) rfl rfl (Nat.le_of_ble_eq_true rfl) ?_
  show KW X A 2 20 20 [(0, .ref h0)] [] ((h0, .inr (3, [.int 0, .ref q24, .ref q25])) :: ([(q24, .inl (X.g.cI, 10, .inl (fun _ => 0))), (q25, .inl (X.g.cI, 10, .inl (fun _ => 0)))]))
  exact kr_ret (fun k => if k = 3 then h0 else if k = 24 then q24 else if k = 25 then q25 else 0) B dX3_init_20 hq rfl rfl
set_option maxHeartbeats 4000000 in
set_option maxRecDepth 100000 in
theorem it_6 (g : ax_G) : IT g md_X6_init 1 7 252 6 df_6 [6, 33, 34, 35, 36, 37, 38, 39] := by
  refine it_intro (by decide) rfl (by decide) ?_
  intro X A h0 hg hnL B hin hq
  subst hg
  show KW X A 0 0 0 [(0, .ref h0)] [] [(h0, .inr (6, df_6))]
  refine kr_aload0 B dX6_init_0 ?_
  refine kr_obj B dX6_init_1 lo_6 (by decide) ?_
  refine kr_aload0 B dX6_init_4 ?_
  refine kr_iconst (z := 4) B dX6_init_5 ?_
  refine kr_bipush (z := 60) B dX6_init_6 (by decide) ?_
  refine kr_mna B dX6_init_8 cl_RR (Nat.le_of_ble_eq_true rfl) (Nat.le_of_ble_eq_true rfl) (fun q33 q34 q35 q36 q37 => ?_)
  refine kr_putF (t := .array (.array .int)) B hin dX6_init_12 fl_6_13 (fun T C N h => by cases h; exact ⟨rfl, rfl, by decide +kernel⟩) rfl rfl (Nat.le_of_ble_eq_true rfl) ?_
  show KW X A 5 244 15 [(0, .ref h0)] [] ((h0, .inr (6, [.ref q33, .null, .null, .int 0])) :: ([(q33, .inl (X.g.cR, 4, .inr (.inr (.inr (.inr (rw4 q34 q35 q36 q37)))))), (q34, .inl (X.g.cI, 60, .inl (fun _ => 0))), (q35, .inl (X.g.cI, 60, .inl (fun _ => 0))), (q36, .inl (X.g.cI, 60, .inl (fun _ => 0))), (q37, .inl (X.g.cI, 60, .inl (fun _ => 0)))]))
  refine kr_aload0 B dX6_init_15 ?_
  refine kr_iconst (z := 4) B dX6_init_16 ?_
  refine kr_newI (N := 4) B dX6_init_17 (by decide) (by decide) (Nat.le_of_ble_eq_true rfl) (Nat.le_of_ble_eq_true rfl) (Nat.le_of_ble_eq_true rfl) (fun q38 => ?_)
  refine kr_putF (t := .array .int) B hin dX6_init_19 fl_6_16 (fun T C N h => by cases h; exact ⟨rfl, rfl, by decide +kernel⟩) rfl rfl (Nat.le_of_ble_eq_true rfl) ?_
  show KW X A 6 248 22 [(0, .ref h0)] [] ((h0, .inr (6, [.ref q33, .ref q38, .null, .int 0])) :: ([(q33, .inl (X.g.cR, 4, .inr (.inr (.inr (.inr (rw4 q34 q35 q36 q37)))))), (q34, .inl (X.g.cI, 60, .inl (fun _ => 0))), (q35, .inl (X.g.cI, 60, .inl (fun _ => 0))), (q36, .inl (X.g.cI, 60, .inl (fun _ => 0))), (q37, .inl (X.g.cI, 60, .inl (fun _ => 0))), (q38, .inl (X.g.cI, 4, .inl (fun _ => 0)))]))
  refine kr_aload0 B dX6_init_22 ?_
  refine kr_iconst (z := 4) B dX6_init_23 ?_
  refine kr_newI (N := 4) B dX6_init_24 (by decide) (by decide) (Nat.le_of_ble_eq_true rfl) (Nat.le_of_ble_eq_true rfl) (Nat.le_of_ble_eq_true rfl) (fun q39 => ?_)
  refine kr_putF (t := .array .int) B hin dX6_init_26 fl_6_20 (fun T C N h => by cases h; exact ⟨rfl, rfl, by decide +kernel⟩) rfl rfl (Nat.le_of_ble_eq_true rfl) ?_
  show KW X A 7 252 29 [(0, .ref h0)] [] ((h0, .inr (6, [.ref q33, .ref q38, .ref q39, .int 0])) :: ([(q33, .inl (X.g.cR, 4, .inr (.inr (.inr (.inr (rw4 q34 q35 q36 q37)))))), (q34, .inl (X.g.cI, 60, .inl (fun _ => 0))), (q35, .inl (X.g.cI, 60, .inl (fun _ => 0))), (q36, .inl (X.g.cI, 60, .inl (fun _ => 0))), (q37, .inl (X.g.cI, 60, .inl (fun _ => 0))), (q38, .inl (X.g.cI, 4, .inl (fun _ => 0))), (q39, .inl (X.g.cI, 4, .inl (fun _ => 0)))]))
  refine kr_iconst (z := 0) B dX6_init_29 ?_
  refine kr_istore1 (z := 0) B hnL dX6_init_30 ?_
  have lp : ∀ n i : Nat, ∀ f : Nat → Int32, i + n = 4 → f = fF (ax_i (-1)) i → KW X A 7 252 31 [(0, .ref h0), (1, .int (ax_i (i : Int)))] [] [(h0, .inr (6, [.ref q33, .ref q38, .ref q39, .int 0])), (q33, .inl (X.g.cR, 4, .inr (.inr (.inr (.inr (rw4 q34 q35 q36 q37)))))), (q34, .inl (X.g.cI, 60, .inl (fun _ => 0))), (q35, .inl (X.g.cI, 60, .inl (fun _ => 0))), (q36, .inl (X.g.cI, 60, .inl (fun _ => 0))), (q37, .inl (X.g.cI, 60, .inl (fun _ => 0))), (q38, .inl (X.g.cI, 4, .inl (f))), (q39, .inl (X.g.cI, 4, .inl (fun _ => 0)))] := by
    intro n
    induction n with
    | zero =>
      intro i f hi hf
      obtain rfl : i = 4 := by omega
      subst hf
      refine kr_iload1 B dX6_init_31 ?_
      refine kr_iconst (z := 4) B dX6_init_32 ?_
      refine kr_icmpge 49 B dX6_init_33 (by decide) (by omega) (fun _ => ?_) (fun h => absurd h (by omega))
      refine kr_ret (fun k => if k = 6 then h0 else if k = 33 then q33 else if k = 34 then q34 else if k = 35 then q35 else if k = 36 then q36 else if k = 37 then q37 else if k = 38 then q38 else if k = 39 then q39 else 0) B dX6_init_49 hq rfl ?_
      have er : rw4 q34 q35 q36 q37 = fun j => ((([some 34, some 35, some 36, some 37] : List (Option Nat))[j]?).getD none).map (fun k => if k = 6 then h0 else if k = 33 then q33 else if k = 34 then q34 else if k = 35 then q35 else if k = 36 then q36 else if k = 37 then q37 else if k = 38 then q38 else if k = 39 then q39 else 0) := by
        funext j
        match j with
        | 0 => rfl
        | 1 => rfl
        | 2 => rfl
        | 3 => rfl
        | j + 4 => rfl
      rw [er, fF_e]
      rfl
    | succ n ih =>
      intro i f hi hf
      refine kr_iload1 B dX6_init_31 ?_
      refine kr_iconst (z := 4) B dX6_init_32 ?_
      refine kr_icmpge 49 B dX6_init_33 (by decide) (by omega) (fun h => absurd h (by omega)) (fun h => ?_)
      refine kr_aload0 B dX6_init_36 ?_
      refine kr_get (q0 := 0) (v := .ref q38) B dX6_init_37 fl_6_16 rfl rfl ?_
      refine kr_iload1 B dX6_init_40 ?_
      refine kr_iconst (z := (-1)) B dX6_init_41 ?_
      refine kr_iast (q0 := 6) (N := 4) (i := (i : Int)) (z := (-1)) B dX6_init_42 rfl (by decide) (by omega) ?_
      refine kr_iinc1 (y := 1) B hnL dX6_init_43 ?_
      refine kr_goto 31 B dX6_init_46 (by decide) ?_
      refine ih (i + 1) _ (by omega) ?_
      rw [hf, show ((i : Int)).toNat = i by omega]
      exact fF_s _ i
  exact lp 4 0 _ rfl (fF_0 _)
