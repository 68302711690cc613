theorem ax_uw {l : List Cond} (h : ∀ w ∈ l, w ∈ lw_tbl) (g : l.all goodWord = true) : ∀ w ∈ l, w ∈ ax_big := fun w hw => List.mem_filter.mpr ⟨h w hw, List.all_eq_true.mp g w hw⟩
theorem so_0 : ax_shp 0 = (4, 0, [some 10, some 11, some 12, some 13, some 14, none, none, none, none, none, none]) := rfl
theorem or_0_0 : ax_or1 0 0 0 10 := ⟨_, rfl, rfl⟩
theorem or_0_1 : ax_or1 0 0 1 11 := ⟨_, rfl, rfl⟩
theorem or_0_2 : ax_or1 0 0 2 12 := ⟨_, rfl, rfl⟩
theorem or_0_3 : ax_or1 0 0 3 13 := ⟨_, rfl, rfl⟩
theorem or_0_4 : ax_or1 0 0 4 14 := ⟨_, rfl, rfl⟩
theorem ob_0_5 : ax_ob 0 0 5 5 0 80 := ⟨⟨_, rfl, rfl⟩, by decide, rfl⟩
theorem fi_0_5 : ax_fi 0 5 := fun T C N h => by cases h; exact ⟨rfl, by decide +kernel⟩
theorem ob_0_6 : ax_ob 0 0 6 6 0 8 := ⟨⟨_, rfl, rfl⟩, by decide, rfl⟩
theorem fi_0_6 : ax_fi 0 6 := fun T C N h => by cases h; exact ⟨rfl, by decide +kernel⟩
theorem ob_0_7 : ax_ob 0 0 7 7 (-1) 80 := ⟨⟨_, rfl, rfl⟩, by decide, rfl⟩
theorem fi_0_7 : ax_fi 0 7 := fun T C N h => by cases h; exact ⟨rfl, by decide +kernel⟩
theorem ob_0_8 : ax_ob 0 0 8 8 0 8 := ⟨⟨_, rfl, rfl⟩, by decide, rfl⟩
theorem fi_0_8 : ax_fi 0 8 := fun T C N h => by cases h; exact ⟨rfl, by decide +kernel⟩
theorem ob_0_9 : ax_ob 0 0 9 9 0 4 := ⟨⟨_, rfl, rfl⟩, by decide, rfl⟩
theorem fi_0_9 : ax_fi 0 9 := fun T C N h => by cases h; exact ⟨rfl, by decide +kernel⟩
theorem ob_0_10 : ax_ob 0 0 10 10 (-1) 80 := ⟨⟨_, rfl, rfl⟩, by decide, rfl⟩
theorem fi_0_10 : ax_fi 0 10 := fun T C N h => by cases h; exact ⟨rfl, by decide +kernel⟩
theorem so_1 : ax_shp 1 = (4, 1, [some 15, some 16, some 17]) := rfl
theorem or_1_0 : ax_or1 1 1 0 15 := ⟨_, rfl, rfl⟩
theorem or_1_1 : ax_or1 1 1 1 16 := ⟨_, rfl, rfl⟩
theorem or_1_2 : ax_or1 1 1 2 17 := ⟨_, rfl, rfl⟩
theorem so_2 : ax_shp 2 = (4, 2, [some 0, some 5, some 1, some 18, some 19, some 20, some 21, some 22, some 23]) := rfl
theorem or_2_0 : ax_or1 2 2 0 0 := ⟨_, rfl, rfl⟩
theorem or_2_1 : ax_or1 2 2 1 5 := ⟨_, rfl, rfl⟩
theorem or_2_2 : ax_or1 2 2 2 1 := ⟨_, rfl, rfl⟩
theorem or_2_3 : ax_or1 2 2 3 18 := ⟨_, rfl, rfl⟩
theorem or_2_4 : ax_or1 2 2 4 19 := ⟨_, rfl, rfl⟩
theorem or_2_5 : ax_or1 2 2 5 20 := ⟨_, rfl, rfl⟩
theorem or_2_6 : ax_or1 2 2 6 21 := ⟨_, rfl, rfl⟩
theorem or_2_7 : ax_or1 2 2 7 22 := ⟨_, rfl, rfl⟩
theorem or_2_8 : ax_or1 2 2 8 23 := ⟨_, rfl, rfl⟩
theorem so_3 : ax_shp 3 = (4, 3, [none, some 24, some 25]) := rfl
theorem ob_3_0 : ax_ob 3 3 0 0 0 10 := ⟨⟨_, rfl, rfl⟩, by decide, rfl⟩
theorem fi_3_0 : ax_fi 3 0 := fun T C N h => by cases h; exact ⟨rfl, by decide +kernel⟩
theorem or_3_1 : ax_or1 3 3 1 24 := ⟨_, rfl, rfl⟩
theorem or_3_2 : ax_or1 3 3 2 25 := ⟨_, rfl, rfl⟩
theorem so_4 : ax_shp 4 = (4, 4, [some 26, none, none, some 2, some 27, some 28, some 29, none]) := rfl
theorem or_4_0 : ax_or1 4 4 0 26 := ⟨_, rfl, rfl⟩
theorem ob_4_1 : ax_ob 4 4 1 1 0 72 := ⟨⟨_, rfl, rfl⟩, by decide, rfl⟩
theorem fi_4_1 : ax_fi 4 1 := fun T C N h => by cases h; exact ⟨rfl, by decide +kernel⟩
theorem ob_4_2 : ax_ob 4 4 2 2 0 1000 := ⟨⟨_, rfl, rfl⟩, by decide, rfl⟩
theorem fi_4_2 : ax_fi 4 2 := fun T C N h => by cases h; exact ⟨rfl, by decide +kernel⟩
theorem or_4_3 : ax_or1 4 4 3 2 := ⟨_, rfl, rfl⟩
theorem or_4_4 : ax_or1 4 4 4 27 := ⟨_, rfl, rfl⟩
theorem or_4_5 : ax_or1 4 4 5 28 := ⟨_, rfl, rfl⟩
theorem or_4_6 : ax_or1 4 4 6 29 := ⟨_, rfl, rfl⟩
theorem ob_4_7 : ax_ob 4 4 7 7 0 255 := ⟨⟨_, rfl, rfl⟩, by decide, rfl⟩
theorem fi_4_7 : ax_fi 4 7 := fun T C N h => by cases h; exact ⟨rfl, by decide +kernel⟩
theorem so_5 : ax_shp 5 = (4, 5, [none, none, none, some 30, some 31, some 32, none, none, none, none]) := rfl
theorem ob_5_0 : ax_ob 5 5 0 0 0 40 := ⟨⟨_, rfl, rfl⟩, by decide, rfl⟩
theorem fi_5_0 : ax_fi 5 0 := fun T C N h => by cases h; exact ⟨rfl, by decide +kernel⟩
theorem ob_5_1 : ax_ob 5 5 1 1 0 40 := ⟨⟨_, rfl, rfl⟩, by decide, rfl⟩
theorem fi_5_1 : ax_fi 5 1 := fun T C N h => by cases h; exact ⟨rfl, by decide +kernel⟩
theorem ob_5_2 : ax_ob 5 5 2 2 (-1) 40 := ⟨⟨_, rfl, rfl⟩, by decide, rfl⟩
theorem fi_5_2 : ax_fi 5 2 := fun T C N h => by cases h; exact ⟨rfl, by decide +kernel⟩
theorem or_5_3 : ax_or1 5 5 3 30 := ⟨_, rfl, rfl⟩
theorem or_5_4 : ax_or1 5 5 4 31 := ⟨_, rfl, rfl⟩
theorem or_5_5 : ax_or1 5 5 5 32 := ⟨_, rfl, rfl⟩
theorem ob_5_6 : ax_ob 5 5 6 6 0 40 := ⟨⟨_, rfl, rfl⟩, by decide, rfl⟩
theorem fi_5_6 : ax_fi 5 6 := fun T C N h => by cases h; exact ⟨rfl, by decide +kernel⟩
theorem ob_5_7 : ax_ob 5 5 7 7 0 3 := ⟨⟨_, rfl, rfl⟩, by decide, rfl⟩
theorem fi_5_7 : ax_fi 5 7 := fun T C N h => by cases h; exact ⟨rfl, by decide +kernel⟩
theorem ob_5_8 : ax_ob 5 5 8 8 0 4 := ⟨⟨_, rfl, rfl⟩, by decide, rfl⟩
theorem fi_5_8 : ax_fi 5 8 := fun T C N h => by cases h; exact ⟨rfl, by decide +kernel⟩
theorem ob_5_9 : ax_ob 5 5 9 9 (-1) 40 := ⟨⟨_, rfl, rfl⟩, by decide, rfl⟩
theorem fi_5_9 : ax_fi 5 9 := fun T C N h => by cases h; exact ⟨rfl, by decide +kernel⟩
theorem so_6 : ax_shp 6 = (4, 6, [some 33, some 38, some 39, none]) := rfl
theorem or_6_0 : ax_or1 6 6 0 33 := ⟨_, rfl, rfl⟩
theorem or_6_1 : ax_or1 6 6 1 38 := ⟨_, rfl, rfl⟩
theorem or_6_2 : ax_or1 6 6 2 39 := ⟨_, rfl, rfl⟩
theorem ob_6_3 : ax_ob 6 6 3 3 0 5 := ⟨⟨_, rfl, rfl⟩, by decide, rfl⟩
theorem fi_6_3 : ax_fi 6 3 := fun T C N h => by cases h; exact ⟨rfl, by decide +kernel⟩
theorem so_7 : ax_shp 7 = (4, 7, [none, some 40, some 41, some 42, some 43, none, none]) := rfl
theorem ob_7_0 : ax_ob 7 7 0 0 0 10 := ⟨⟨_, rfl, rfl⟩, by decide, rfl⟩
theorem fi_7_0 : ax_fi 7 0 := fun T C N h => by cases h; exact ⟨rfl, by decide +kernel⟩
theorem or_7_1 : ax_or1 7 7 1 40 := ⟨_, rfl, rfl⟩
theorem or_7_2 : ax_or1 7 7 2 41 := ⟨_, rfl, rfl⟩
theorem or_7_3 : ax_or1 7 7 3 42 := ⟨_, rfl, rfl⟩
theorem or_7_4 : ax_or1 7 7 4 43 := ⟨_, rfl, rfl⟩
theorem ob_7_5 : ax_ob 7 7 5 5 0 1023 := ⟨⟨_, rfl, rfl⟩, by decide, rfl⟩
theorem fi_7_5 : ax_fi 7 5 := fun T C N h => by cases h; exact ⟨rfl, by decide +kernel⟩
theorem ob_7_6 : ax_ob 7 7 6 6 0 1 := ⟨⟨_, rfl, rfl⟩, by decide, rfl⟩
theorem fi_7_6 : ax_fz 7 6 := fun T C N h => by cases h; exact ⟨rfl, by decide +kernel⟩
theorem so_8 : ax_shp 8 = (4, 8, [some 4, some 2, some 0, some 5, some 1, some 7, some 3, some 6, some 44, none, none]) := rfl
theorem or_8_0 : ax_or1 8 8 0 4 := ⟨_, rfl, rfl⟩
theorem or_8_1 : ax_or1 8 8 1 2 := ⟨_, rfl, rfl⟩
theorem or_8_2 : ax_or1 8 8 2 0 := ⟨_, rfl, rfl⟩
theorem or_8_3 : ax_or1 8 8 3 5 := ⟨_, rfl, rfl⟩
theorem or_8_4 : ax_or1 8 8 4 1 := ⟨_, rfl, rfl⟩
theorem or_8_5 : ax_or1 8 8 5 7 := ⟨_, rfl, rfl⟩
theorem or_8_6 : ax_or1 8 8 6 3 := ⟨_, rfl, rfl⟩
theorem or_8_7 : ax_or1 8 8 7 6 := ⟨_, rfl, rfl⟩
theorem or_8_8 : ax_or1 8 8 8 44 := ⟨_, rfl, rfl⟩
theorem ob_8_9 : ax_ob 8 8 9 9 0 1 := ⟨⟨_, rfl, rfl⟩, by decide, rfl⟩
theorem fi_8_9 : ax_fz 8 9 := fun T C N h => by cases h; exact ⟨rfl, by decide +kernel⟩
theorem ob_8_10 : ax_ob 8 8 10 10 0 1 := ⟨⟨_, rfl, rfl⟩, by decide, rfl⟩
theorem fi_8_10 : ax_fz 8 10 := fun T C N h => by cases h; exact ⟨rfl, by decide +kernel⟩
theorem so_9 : ax_shp 9 = (4, 9, [some 45, some 46, none, some 47, some 48, some 49, some 50, some 51, none, some 52, some 53, some 54, some 55, some 56, some 57, some 58, some 59, some 60, some 61, some 62, some 63, some 64, none, none, none, none, none, some 65, some 66, some 67, none, some 68, some 69, some 70, some 71, some 72, some 73, some 74, none]) := rfl
theorem or_9_0 : ax_or1 9 9 0 45 := ⟨_, rfl, rfl⟩
theorem or_9_1 : ax_or1 9 9 1 46 := ⟨_, rfl, rfl⟩
theorem ob_9_2 : ax_ob 9 9 2 2 0 8 := ⟨⟨_, rfl, rfl⟩, by decide, rfl⟩
theorem fi_9_2 : ax_fi 9 2 := fun T C N h => by cases h; exact ⟨rfl, by decide +kernel⟩
theorem or_9_3 : ax_or1 9 9 3 47 := ⟨_, rfl, rfl⟩
theorem or_9_4 : ax_or1 9 9 4 48 := ⟨_, rfl, rfl⟩
theorem or_9_5 : ax_or1 9 9 5 49 := ⟨_, rfl, rfl⟩
theorem or_9_6 : ax_or1 9 9 6 50 := ⟨_, rfl, rfl⟩
theorem or_9_7 : ax_or1 9 9 7 51 := ⟨_, rfl, rfl⟩
theorem ob_9_8 : ax_ob 9 9 8 8 0 40 := ⟨⟨_, rfl, rfl⟩, by decide, rfl⟩
theorem fi_9_8 : ax_fi 9 8 := fun T C N h => by cases h; exact ⟨rfl, by decide +kernel⟩
theorem or_9_9 : ax_or1 9 9 9 52 := ⟨_, rfl, rfl⟩
theorem or_9_10 : ax_or1 9 9 10 53 := ⟨_, rfl, rfl⟩
theorem or_9_11 : ax_or1 9 9 11 54 := ⟨_, rfl, rfl⟩
theorem or_9_12 : ax_or1 9 9 12 55 := ⟨_, rfl, rfl⟩
theorem or_9_13 : ax_or1 9 9 13 56 := ⟨_, rfl, rfl⟩
theorem or_9_14 : ax_or1 9 9 14 57 := ⟨_, rfl, rfl⟩
theorem or_9_15 : ax_or1 9 9 15 58 := ⟨_, rfl, rfl⟩
theorem or_9_16 : ax_or1 9 9 16 59 := ⟨_, rfl, rfl⟩
theorem or_9_17 : ax_or1 9 9 17 60 := ⟨_, rfl, rfl⟩
theorem or_9_18 : ax_or1 9 9 18 61 := ⟨_, rfl, rfl⟩
theorem or_9_19 : ax_or1 9 9 19 62 := ⟨_, rfl, rfl⟩
theorem or_9_20 : ax_or1 9 9 20 63 := ⟨_, rfl, rfl⟩
theorem or_9_21 : ax_or1 9 9 21 64 := ⟨_, rfl, rfl⟩
theorem ob_9_22 : ax_ob 9 9 22 22 (-1) 72 := ⟨⟨_, rfl, rfl⟩, by decide, rfl⟩
theorem fi_9_22 : ax_fi 9 22 := fun T C N h => by cases h; exact ⟨rfl, by decide +kernel⟩
theorem ob_9_23 : ax_ob 9 9 23 23 0 1000000 := ⟨⟨_, rfl, rfl⟩, by decide, rfl⟩
theorem fi_9_23 : ax_fi 9 23 := fun T C N h => by cases h; exact ⟨rfl, by decide +kernel⟩
theorem ob_9_24 : ax_ob 9 9 24 24 (-1) 72 := ⟨⟨_, rfl, rfl⟩, by decide, rfl⟩
theorem fi_9_24 : ax_fi 9 24 := fun T C N h => by cases h; exact ⟨rfl, by decide +kernel⟩
theorem ob_9_25 : ax_ob 9 9 25 25 0 1000000 := ⟨⟨_, rfl, rfl⟩, by decide, rfl⟩
theorem fi_9_25 : ax_fi 9 25 := fun T C N h => by cases h; exact ⟨rfl, by decide +kernel⟩
theorem ob_9_26 : ax_ob 9 9 26 26 0 10 := ⟨⟨_, rfl, rfl⟩, by decide, rfl⟩
theorem fi_9_26 : ax_fi 9 26 := fun T C N h => by cases h; exact ⟨rfl, by decide +kernel⟩
theorem or_9_27 : ax_or1 9 9 27 65 := ⟨_, rfl, rfl⟩
theorem or_9_28 : ax_or1 9 9 28 66 := ⟨_, rfl, rfl⟩
theorem or_9_29 : ax_or1 9 9 29 67 := ⟨_, rfl, rfl⟩
theorem ob_9_30 : ax_ob 9 9 30 30 0 10 := ⟨⟨_, rfl, rfl⟩, by decide, rfl⟩
theorem fi_9_30 : ax_fi 9 30 := fun T C N h => by cases h; exact ⟨rfl, by decide +kernel⟩
theorem or_9_31 : ax_or1 9 9 31 68 := ⟨_, rfl, rfl⟩
theorem or_9_32 : ax_or1 9 9 32 69 := ⟨_, rfl, rfl⟩
theorem or_9_33 : ax_or1 9 9 33 70 := ⟨_, rfl, rfl⟩
theorem or_9_34 : ax_or1 9 9 34 71 := ⟨_, rfl, rfl⟩
theorem or_9_35 : ax_or1 9 9 35 72 := ⟨_, rfl, rfl⟩
theorem or_9_36 : ax_or1 9 9 36 73 := ⟨_, rfl, rfl⟩
theorem or_9_37 : ax_or1 9 9 37 74 := ⟨_, rfl, rfl⟩
theorem ob_9_38 : ax_ob 9 9 38 38 0 5 := ⟨⟨_, rfl, rfl⟩, by decide, rfl⟩
theorem fi_9_38 : ax_fi 9 38 := fun T C N h => by cases h; exact ⟨rfl, by decide +kernel⟩
theorem sa_10 : ax_arr 0 10 8 0 3 := ⟨⟨_, rfl⟩, Nat.le_of_ble_eq_true rfl, fun _ => rfl⟩
theorem sa_11 : ax_arr 0 11 8 0 5 := ⟨⟨_, rfl⟩, Nat.le_of_ble_eq_true rfl, fun _ => rfl⟩
theorem sa_12 : ax_arr 0 12 8 0 1 := ⟨⟨_, rfl⟩, Nat.le_of_ble_eq_true rfl, fun _ => rfl⟩
theorem sa_13 : ax_arr 0 13 8 0 9 := ⟨⟨_, rfl⟩, Nat.le_of_ble_eq_true rfl, fun _ => rfl⟩
theorem sa_14 : ax_arr 0 14 8 0 255 := ⟨⟨_, rfl⟩, Nat.le_of_ble_eq_true rfl, fun _ => rfl⟩
theorem sa_15 : ax_arr 0 15 32 0 99 := ⟨⟨_, rfl⟩, Nat.le_of_ble_eq_true rfl, fun _ => rfl⟩
theorem sa_16 : ax_arr 0 16 8 0 1 := ⟨⟨_, rfl⟩, Nat.le_of_ble_eq_true rfl, fun _ => rfl⟩
theorem sa_17 : ax_arr 0 17 4 0 999 := ⟨⟨_, rfl⟩, Nat.le_of_ble_eq_true rfl, fun _ => rfl⟩
theorem sa_18 : ax_arr 0 18 8 0 8 := ⟨⟨_, rfl⟩, Nat.le_of_ble_eq_true rfl, fun _ => rfl⟩
theorem sa_19 : ax_arr 1 19 8 0 1 := ⟨⟨_, rfl⟩, Nat.le_of_ble_eq_true rfl, fun _ => rfl⟩
theorem sa_20 : ax_arr 1 20 8 0 1 := ⟨⟨_, rfl⟩, Nat.le_of_ble_eq_true rfl, fun _ => rfl⟩
theorem sa_21 : ax_arr 0 21 64 (-1) 255 := ⟨⟨_, rfl⟩, Nat.le_of_ble_eq_true rfl, fun _ => rfl⟩
theorem sa_22 : ax_arr 0 22 64 0 792 := ⟨⟨_, rfl⟩, Nat.le_of_ble_eq_true rfl, fun _ => rfl⟩
theorem sa_23 : ax_arr 0 23 8 0 7 := ⟨⟨_, rfl⟩, Nat.le_of_ble_eq_true rfl, fun _ => rfl⟩
theorem sa_24 : ax_arr 0 24 10 0 7 := ⟨⟨_, rfl⟩, Nat.le_of_ble_eq_true rfl, fun _ => rfl⟩
theorem sa_25 : ax_arr 0 25 10 0 7 := ⟨⟨_, rfl⟩, Nat.le_of_ble_eq_true rfl, fun _ => rfl⟩
theorem sa_26 : ax_arr 0 26 8 (-1) 7 := ⟨⟨_, rfl⟩, Nat.le_of_ble_eq_true rfl, fun _ => rfl⟩
theorem sa_27 : ax_arr 2 27 256 0 1152921504606846976 := ⟨⟨_, rfl⟩, Nat.le_of_ble_eq_true rfl, fun _ => rfl⟩
theorem sa_28 : ax_arr 2 28 256 0 1152921504606846976 := ⟨⟨_, rfl⟩, Nat.le_of_ble_eq_true rfl, fun _ => rfl⟩
theorem sa_29 : ax_arr 2 29 256 0 1152921504606846976 := ⟨⟨_, rfl⟩, Nat.le_of_ble_eq_true rfl, fun _ => rfl⟩
theorem sa_30 : ax_arr 0 30 4 0 4 := ⟨⟨_, rfl⟩, Nat.le_of_ble_eq_true rfl, fun _ => rfl⟩
theorem sa_31 : ax_arr 1 31 4 0 1 := ⟨⟨_, rfl⟩, Nat.le_of_ble_eq_true rfl, fun _ => rfl⟩
theorem sa_32 : ax_arr 1 32 4 0 1 := ⟨⟨_, rfl⟩, Nat.le_of_ble_eq_true rfl, fun _ => rfl⟩
theorem sa_34 : ax_arr 0 34 60 (-2147483648) 2147483647 := ⟨⟨_, rfl⟩, Nat.le_of_ble_eq_true rfl, fun _ => rfl⟩
theorem sa_35 : ax_arr 0 35 60 (-2147483648) 2147483647 := ⟨⟨_, rfl⟩, Nat.le_of_ble_eq_true rfl, fun _ => rfl⟩
theorem sa_36 : ax_arr 0 36 60 (-2147483648) 2147483647 := ⟨⟨_, rfl⟩, Nat.le_of_ble_eq_true rfl, fun _ => rfl⟩
theorem sa_37 : ax_arr 0 37 60 (-2147483648) 2147483647 := ⟨⟨_, rfl⟩, Nat.le_of_ble_eq_true rfl, fun _ => rfl⟩
theorem sa_38 : ax_arr 0 38 4 (-1) 2 := ⟨⟨_, rfl⟩, Nat.le_of_ble_eq_true rfl, fun _ => rfl⟩
theorem sa_39 : ax_arr 0 39 4 0 60 := ⟨⟨_, rfl⟩, Nat.le_of_ble_eq_true rfl, fun _ => rfl⟩
theorem sa_40 : ax_arr 0 40 10 0 7 := ⟨⟨_, rfl⟩, Nat.le_of_ble_eq_true rfl, fun _ => rfl⟩
theorem sa_41 : ax_arr 0 41 10 0 5 := ⟨⟨_, rfl⟩, Nat.le_of_ble_eq_true rfl, fun _ => rfl⟩
theorem sa_42 : ax_arr 0 42 10 0 7 := ⟨⟨_, rfl⟩, Nat.le_of_ble_eq_true rfl, fun _ => rfl⟩
theorem sa_43 : ax_arr 0 43 10 0 1023 := ⟨⟨_, rfl⟩, Nat.le_of_ble_eq_true rfl, fun _ => rfl⟩
theorem sa_44 : ax_arr 0 44 8 (-2147483648) 2147483647 := ⟨⟨_, rfl⟩, Nat.le_of_ble_eq_true rfl, fun _ => rfl⟩
theorem sa_45 : ax_arr 0 45 2 0 80 := ⟨⟨_, rfl⟩, Nat.le_of_ble_eq_true rfl, fun _ => rfl⟩
theorem sa_46 : ax_arr 0 46 160 0 255 := ⟨⟨_, rfl⟩, Nat.le_of_ble_eq_true rfl, fun _ => rfl⟩
theorem sa_47 : ax_arr 0 47 9 0 3 := ⟨⟨_, rfl⟩, Nat.le_of_ble_eq_true rfl, fun _ => rfl⟩
theorem sa_48 : ax_arr 0 48 9 0 5 := ⟨⟨_, rfl⟩, Nat.le_of_ble_eq_true rfl, fun _ => rfl⟩
theorem sa_49 : ax_arr 0 49 9 0 1 := ⟨⟨_, rfl⟩, Nat.le_of_ble_eq_true rfl, fun _ => rfl⟩
theorem sa_50 : ax_arr 0 50 9 0 9 := ⟨⟨_, rfl⟩, Nat.le_of_ble_eq_true rfl, fun _ => rfl⟩
theorem sa_51 : ax_arr 0 51 9 0 255 := ⟨⟨_, rfl⟩, Nat.le_of_ble_eq_true rfl, fun _ => rfl⟩
theorem sa_52 : ax_arr 0 52 4 0 4 := ⟨⟨_, rfl⟩, Nat.le_of_ble_eq_true rfl, fun _ => rfl⟩
theorem sa_53 : ax_arr 0 53 4 0 1 := ⟨⟨_, rfl⟩, Nat.le_of_ble_eq_true rfl, fun _ => rfl⟩
theorem sa_54 : ax_arr 0 54 4 0 1 := ⟨⟨_, rfl⟩, Nat.le_of_ble_eq_true rfl, fun _ => rfl⟩
theorem sa_55 : ax_arr 0 55 8 0 7 := ⟨⟨_, rfl⟩, Nat.le_of_ble_eq_true rfl, fun _ => rfl⟩
theorem sa_56 : ax_arr 0 56 8 0 8 := ⟨⟨_, rfl⟩, Nat.le_of_ble_eq_true rfl, fun _ => rfl⟩
theorem sa_57 : ax_arr 0 57 8 0 99 := ⟨⟨_, rfl⟩, Nat.le_of_ble_eq_true rfl, fun _ => rfl⟩
theorem sa_58 : ax_arr 0 58 8 0 16 := ⟨⟨_, rfl⟩, Nat.le_of_ble_eq_true rfl, fun _ => rfl⟩
theorem sa_59 : ax_arr 0 59 8 0 1 := ⟨⟨_, rfl⟩, Nat.le_of_ble_eq_true rfl, fun _ => rfl⟩
theorem sa_60 : ax_arr 0 60 4 0 999 := ⟨⟨_, rfl⟩, Nat.le_of_ble_eq_true rfl, fun _ => rfl⟩
theorem sa_61 : ax_arr 0 61 2048 0 1000000 := ⟨⟨_, rfl⟩, Nat.le_of_ble_eq_true rfl, fun _ => rfl⟩
theorem sa_62 : ax_arr 0 62 256 0 1000000 := ⟨⟨_, rfl⟩, Nat.le_of_ble_eq_true rfl, fun _ => rfl⟩
theorem sa_63 : ax_arr 0 63 256 0 1000000 := ⟨⟨_, rfl⟩, Nat.le_of_ble_eq_true rfl, fun _ => rfl⟩
theorem sa_64 : ax_arr 0 64 8 (-1) 8 := ⟨⟨_, rfl⟩, Nat.le_of_ble_eq_true rfl, fun _ => rfl⟩
theorem sa_65 : ax_arr 0 65 10 0 7 := ⟨⟨_, rfl⟩, Nat.le_of_ble_eq_true rfl, fun _ => rfl⟩
theorem sa_66 : ax_arr 0 66 10 0 5 := ⟨⟨_, rfl⟩, Nat.le_of_ble_eq_true rfl, fun _ => rfl⟩
theorem sa_67 : ax_arr 0 67 10 0 7 := ⟨⟨_, rfl⟩, Nat.le_of_ble_eq_true rfl, fun _ => rfl⟩
theorem sa_68 : ax_arr 0 68 10 0 7 := ⟨⟨_, rfl⟩, Nat.le_of_ble_eq_true rfl, fun _ => rfl⟩
theorem sa_69 : ax_arr 0 69 10 0 7 := ⟨⟨_, rfl⟩, Nat.le_of_ble_eq_true rfl, fun _ => rfl⟩
theorem sa_70 : ax_arr 1 70 4 0 1 := ⟨⟨_, rfl⟩, Nat.le_of_ble_eq_true rfl, fun _ => rfl⟩
theorem sa_71 : ax_arr 0 71 4 0 2 := ⟨⟨_, rfl⟩, Nat.le_of_ble_eq_true rfl, fun _ => rfl⟩
theorem sa_72 : ax_arr 0 72 4 0 60 := ⟨⟨_, rfl⟩, Nat.le_of_ble_eq_true rfl, fun _ => rfl⟩
theorem sa_73 : ax_arr 0 73 240 (-2147483648) 2147483647 := ⟨⟨_, rfl⟩, Nat.le_of_ble_eq_true rfl, fun _ => rfl⟩
theorem sa_74 : ax_arr 0 74 60 (-2147483648) 2147483647 := ⟨⟨_, rfl⟩, Nat.le_of_ble_eq_true rfl, fun _ => rfl⟩
theorem uw_0 : ∀ w ∈ u_ws RX0 TX0 11, w ∈ ax_big := ax_uw (by decide +kernel) (by decide +kernel)
theorem uw_1 : ∀ w ∈ u_ws RX1 TX1 3, w ∈ ax_big := ax_uw (by decide +kernel) (by decide +kernel)
theorem uw_2 : ∀ w ∈ u_ws RX2 TX2 9, w ∈ ax_big := ax_uw (by decide +kernel) (by decide +kernel)
theorem uw_3 : ∀ w ∈ u_ws RX3 TX3 3, w ∈ ax_big := ax_uw (by decide +kernel) (by decide +kernel)
theorem uw_4 : ∀ w ∈ u_ws RX4 TX4 8, w ∈ ax_big := ax_uw (by decide +kernel) (by decide +kernel)
theorem uw_5 : ∀ w ∈ u_ws RX5 TX5 10, w ∈ ax_big := ax_uw (by decide +kernel) (by decide +kernel)
theorem uw_6 : ∀ w ∈ u_ws RX6 TX6 4, w ∈ ax_big := ax_uw (by decide +kernel) (by decide +kernel)
theorem uw_7 : ∀ w ∈ u_ws RX7 TX7 7, w ∈ ax_big := ax_uw (by decide +kernel) (by decide +kernel)
theorem uw_8 : ∀ w ∈ u_ws RX8 TX8 11, w ∈ ax_big := ax_uw (by decide +kernel) (by decide +kernel)
theorem uw_9 : ∀ w ∈ u_ws RX9 TX9 39, w ∈ ax_big := ax_uw (by decide +kernel) (by decide +kernel)
theorem fl_0_9 : ax_fl RX0 9 0 0 := ⟨RX0, TX0, 11, tyX0, uw_0, rfl, by decide, ax_in 104 (by decide +kernel) rfl, tyX0_ok, nmX0, by decide +kernel⟩
theorem fl_2_67 : ax_fl RX2 67 0 0 := ⟨RX0, TX0, 11, tyX0, uw_0, rfl, by decide, ax_in 105 (by decide +kernel) rfl, tyX0_ok, nmX0, by decide +kernel⟩
theorem fl_8_108 : ax_fl RX8 108 0 0 := ⟨RX0, TX0, 11, tyX0, uw_0, rfl, by decide, ax_in 106 (by decide +kernel) rfl, tyX0_ok, nmX0, by decide +kernel⟩
theorem fl_0_15 : ax_fl RX0 15 0 1 := ⟨RX0, TX0, 11, tyX0, uw_0, rfl, by decide, ax_in 107 (by decide +kernel) rfl, tyX0_ok, nmX0, by decide +kernel⟩
theorem fl_8_111 : ax_fl RX8 111 0 1 := ⟨RX0, TX0, 11, tyX0, uw_0, rfl, by decide, ax_in 108 (by decide +kernel) rfl, tyX0_ok, nmX0, by decide +kernel⟩
theorem fl_2_127 : ax_fl RX2 127 0 1 := ⟨RX0, TX0, 11, tyX0, uw_0, rfl, by decide, ax_in 109 (by decide +kernel) rfl, tyX0_ok, nmX0, by decide +kernel⟩
theorem fl_0_18 : ax_fl RX0 18 0 2 := ⟨RX0, TX0, 11, tyX0, uw_0, rfl, by decide, ax_in 110 (by decide +kernel) rfl, tyX0_ok, nmX0, by decide +kernel⟩
theorem fl_8_114 : ax_fl RX8 114 0 2 := ⟨RX0, TX0, 11, tyX0, uw_0, rfl, by decide, ax_in 111 (by decide +kernel) rfl, tyX0_ok, nmX0, by decide +kernel⟩
theorem fl_2_121 : ax_fl RX2 121 0 2 := ⟨RX0, TX0, 11, tyX0, uw_0, rfl, by decide, ax_in 112 (by decide +kernel) rfl, tyX0_ok, nmX0, by decide +kernel⟩
theorem fl_0_21 : ax_fl RX0 21 0 3 := ⟨RX0, TX0, 11, tyX0, uw_0, rfl, by decide, ax_in 113 (by decide +kernel) rfl, tyX0_ok, nmX0, by decide +kernel⟩
theorem fl_8_117 : ax_fl RX8 117 0 3 := ⟨RX0, TX0, 11, tyX0, uw_0, rfl, by decide, ax_in 114 (by decide +kernel) rfl, tyX0_ok, nmX0, by decide +kernel⟩
theorem fl_2_141 : ax_fl RX2 141 0 3 := ⟨RX0, TX0, 11, tyX0, uw_0, rfl, by decide, ax_in 115 (by decide +kernel) rfl, tyX0_ok, nmX0, by decide +kernel⟩
theorem fl_0_24 : ax_fl RX0 24 0 4 := ⟨RX0, TX0, 11, tyX0, uw_0, rfl, by decide, ax_in 116 (by decide +kernel) rfl, tyX0_ok, nmX0, by decide +kernel⟩
theorem fl_2_74 : ax_fl RX2 74 0 4 := ⟨RX0, TX0, 11, tyX0, uw_0, rfl, by decide, ax_in 117 (by decide +kernel) rfl, tyX0_ok, nmX0, by decide +kernel⟩
theorem fl_8_120 : ax_fl RX8 120 0 4 := ⟨RX0, TX0, 11, tyX0, uw_0, rfl, by decide, ax_in 118 (by decide +kernel) rfl, tyX0_ok, nmX0, by decide +kernel⟩
theorem fl_0_38 : ax_fl RX0 38 0 5 := ⟨RX0, TX0, 11, tyX0, uw_0, rfl, by decide, ax_in 119 (by decide +kernel) rfl, tyX0_ok, nmX0, by decide +kernel⟩
theorem fl_8_78 : ax_fl RX8 78 0 5 := ⟨RX0, TX0, 11, tyX0, uw_0, rfl, by decide, ax_in 120 (by decide +kernel) rfl, tyX0_ok, nmX0, by decide +kernel⟩
theorem fl_2_55 : ax_fl RX2 55 0 6 := ⟨RX0, TX0, 11, tyX0, uw_0, rfl, by decide, ax_in 121 (by decide +kernel) rfl, tyX0_ok, nmX0, by decide +kernel⟩
theorem fl_0_47 : ax_fl RX0 47 0 6 := ⟨RX0, TX0, 11, tyX0, uw_0, rfl, by decide, ax_in 122 (by decide +kernel) rfl, tyX0_ok, nmX0, by decide +kernel⟩
theorem fl_4_81 : ax_fl RX4 81 0 6 := ⟨RX0, TX0, 11, tyX0, uw_0, rfl, by decide, ax_in 123 (by decide +kernel) rfl, tyX0_ok, nmX0, by decide +kernel⟩
theorem fl_8_201 : ax_fl RX8 201 0 6 := ⟨RX0, TX0, 11, tyX0, uw_0, rfl, by decide, ax_in 124 (by decide +kernel) rfl, tyX0_ok, nmX0, by decide +kernel⟩
theorem fl_0_27 : ax_fl RX0 27 0 7 := ⟨RX0, TX0, 11, tyX0, uw_0, rfl, by decide, ax_in 125 (by decide +kernel) rfl, tyX0_ok, nmX0, by decide +kernel⟩
theorem fl_8_100 : ax_fl RX8 100 0 7 := ⟨RX0, TX0, 11, tyX0, uw_0, rfl, by decide, ax_in 126 (by decide +kernel) rfl, tyX0_ok, nmX0, by decide +kernel⟩
theorem fl_0_41 : ax_fl RX0 41 0 8 := ⟨RX0, TX0, 11, tyX0, uw_0, rfl, by decide, ax_in 127 (by decide +kernel) rfl, tyX0_ok, nmX0, by decide +kernel⟩
theorem fl_0_44 : ax_fl RX0 44 0 9 := ⟨RX0, TX0, 11, tyX0, uw_0, rfl, by decide, ax_in 128 (by decide +kernel) rfl, tyX0_ok, nmX0, by decide +kernel⟩
theorem fl_0_31 : ax_fl RX0 31 0 10 := ⟨RX0, TX0, 11, tyX0, uw_0, rfl, by decide, ax_in 129 (by decide +kernel) rfl, tyX0_ok, nmX0, by decide +kernel⟩
theorem fl_5_33 : ax_fl RX5 33 5 0 := ⟨RX5, TX5, 10, tyX5, uw_5, rfl, by decide, ax_in 160 (by decide +kernel) rfl, tyX5_ok, nmX5, by decide +kernel⟩
theorem fl_8_84 : ax_fl RX8 84 5 0 := ⟨RX5, TX5, 10, tyX5, uw_5, rfl, by decide, ax_in 161 (by decide +kernel) rfl, tyX5_ok, nmX5, by decide +kernel⟩
theorem fl_5_42 : ax_fl RX5 42 5 1 := ⟨RX5, TX5, 10, tyX5, uw_5, rfl, by decide, ax_in 162 (by decide +kernel) rfl, tyX5_ok, nmX5, by decide +kernel⟩
theorem fl_8_303 : ax_fl RX8 303 5 1 := ⟨RX5, TX5, 10, tyX5, uw_5, rfl, by decide, ax_in 163 (by decide +kernel) rfl, tyX5_ok, nmX5, by decide +kernel⟩
theorem fl_5_9 : ax_fl RX5 9 5 2 := ⟨RX5, TX5, 10, tyX5, uw_5, rfl, by decide, ax_in 164 (by decide +kernel) rfl, tyX5_ok, nmX5, by decide +kernel⟩
theorem fl_8_103 : ax_fl RX8 103 5 2 := ⟨RX5, TX5, 10, tyX5, uw_5, rfl, by decide, ax_in 165 (by decide +kernel) rfl, tyX5_ok, nmX5, by decide +kernel⟩
theorem fl_5_15 : ax_fl RX5 15 5 3 := ⟨RX5, TX5, 10, tyX5, uw_5, rfl, by decide, ax_in 166 (by decide +kernel) rfl, tyX5_ok, nmX5, by decide +kernel⟩
theorem fl_5_19 : ax_fl RX5 19 5 4 := ⟨RX5, TX5, 10, tyX5, uw_5, rfl, by decide, ax_in 167 (by decide +kernel) rfl, tyX5_ok, nmX5, by decide +kernel⟩
theorem fl_5_23 : ax_fl RX5 23 5 5 := ⟨RX5, TX5, 10, tyX5, uw_5, rfl, by decide, ax_in 168 (by decide +kernel) rfl, tyX5_ok, nmX5, by decide +kernel⟩
theorem fl_5_39 : ax_fl RX5 39 5 6 := ⟨RX5, TX5, 10, tyX5, uw_5, rfl, by decide, ax_in 169 (by decide +kernel) rfl, tyX5_ok, nmX5, by decide +kernel⟩
theorem fl_5_66 : ax_fl RX5 66 5 7 := ⟨RX5, TX5, 10, tyX5, uw_5, rfl, by decide, ax_in 170 (by decide +kernel) rfl, tyX5_ok, nmX5, by decide +kernel⟩
theorem fl_5_36 : ax_fl RX5 36 5 8 := ⟨RX5, TX5, 10, tyX5, uw_5, rfl, by decide, ax_in 171 (by decide +kernel) rfl, tyX5_ok, nmX5, by decide +kernel⟩
theorem fl_5_26 : ax_fl RX5 26 5 9 := ⟨RX5, TX5, 10, tyX5, uw_5, rfl, by decide, ax_in 172 (by decide +kernel) rfl, tyX5_ok, nmX5, by decide +kernel⟩
theorem fl_1_11 : ax_fl RX1 11 1 0 := ⟨RX1, TX1, 3, tyX1, uw_1, rfl, by decide, ax_in 201 (by decide +kernel) rfl, tyX1_ok, nmX1, by decide +kernel⟩
theorem fl_1_15 : ax_fl RX1 15 1 1 := ⟨RX1, TX1, 3, tyX1, uw_1, rfl, by decide, ax_in 202 (by decide +kernel) rfl, tyX1_ok, nmX1, by decide +kernel⟩
theorem fl_8_172 : ax_fl RX8 172 1 1 := ⟨RX1, TX1, 3, tyX1, uw_1, rfl, by decide, ax_in 203 (by decide +kernel) rfl, tyX1_ok, nmX1, by decide +kernel⟩
theorem fl_2_124 : ax_fl RX2 124 1 1 := ⟨RX1, TX1, 3, tyX1, uw_1, rfl, by decide, ax_in 204 (by decide +kernel) rfl, tyX1_ok, nmX1, by decide +kernel⟩
theorem fl_1_18 : ax_fl RX1 18 1 2 := ⟨RX1, TX1, 3, tyX1, uw_1, rfl, by decide, ax_in 205 (by decide +kernel) rfl, tyX1_ok, nmX1, by decide +kernel⟩
theorem fl_4_66 : ax_fl RX4 66 1 2 := ⟨RX1, TX1, 3, tyX1, uw_1, rfl, by decide, ax_in 206 (by decide +kernel) rfl, tyX1_ok, nmX1, by decide +kernel⟩
theorem fl_2_106 : ax_fl RX2 106 1 2 := ⟨RX1, TX1, 3, tyX1, uw_1, rfl, by decide, ax_in 207 (by decide +kernel) rfl, tyX1_ok, nmX1, by decide +kernel⟩
theorem fl_8_224 : ax_fl RX8 224 1 2 := ⟨RX1, TX1, 3, tyX1, uw_1, rfl, by decide, ax_in 208 (by decide +kernel) rfl, tyX1_ok, nmX1, by decide +kernel⟩
theorem fl_2_12 : ax_fl RX2 12 2 0 := ⟨RX2, TX2, 9, tyX2, uw_2, rfl, by decide, ax_in 216 (by decide +kernel) rfl, tyX2_ok, nmX2, by decide +kernel⟩
theorem fl_8_21 : ax_fl RX8 21 2 0 := ⟨RX2, TX2, 9, tyX2, uw_2, rfl, by decide, ax_in 217 (by decide +kernel) rfl, tyX2_ok, nmX2, by decide +kernel⟩
theorem fl_4_77 : ax_fl RX4 77 2 0 := ⟨RX2, TX2, 9, tyX2, uw_2, rfl, by decide, ax_in 218 (by decide +kernel) rfl, tyX2_ok, nmX2, by decide +kernel⟩
theorem fl_2_21 : ax_fl RX2 21 2 1 := ⟨RX2, TX2, 9, tyX2, uw_2, rfl, by decide, ax_in 219 (by decide +kernel) rfl, tyX2_ok, nmX2, by decide +kernel⟩
theorem fl_8_30 : ax_fl RX8 30 2 1 := ⟨RX2, TX2, 9, tyX2, uw_2, rfl, by decide, ax_in 220 (by decide +kernel) rfl, tyX2_ok, nmX2, by decide +kernel⟩
theorem fl_2_28 : ax_fl RX2 28 2 2 := ⟨RX2, TX2, 9, tyX2, uw_2, rfl, by decide, ax_in 221 (by decide +kernel) rfl, tyX2_ok, nmX2, by decide +kernel⟩
theorem fl_8_37 : ax_fl RX8 37 2 2 := ⟨RX2, TX2, 9, tyX2, uw_2, rfl, by decide, ax_in 222 (by decide +kernel) rfl, tyX2_ok, nmX2, by decide +kernel⟩
theorem fl_4_62 : ax_fl RX4 62 2 2 := ⟨RX2, TX2, 9, tyX2, uw_2, rfl, by decide, ax_in 223 (by decide +kernel) rfl, tyX2_ok, nmX2, by decide +kernel⟩
theorem fl_2_32 : ax_fl RX2 32 2 3 := ⟨RX2, TX2, 9, tyX2, uw_2, rfl, by decide, ax_in 224 (by decide +kernel) rfl, tyX2_ok, nmX2, by decide +kernel⟩
theorem fl_2_36 : ax_fl RX2 36 2 4 := ⟨RX2, TX2, 9, tyX2, uw_2, rfl, by decide, ax_in 225 (by decide +kernel) rfl, tyX2_ok, nmX2, by decide +kernel⟩
theorem fl_2_40 : ax_fl RX2 40 2 5 := ⟨RX2, TX2, 9, tyX2, uw_2, rfl, by decide, ax_in 226 (by decide +kernel) rfl, tyX2_ok, nmX2, by decide +kernel⟩
theorem fl_2_43 : ax_fl RX2 43 2 6 := ⟨RX2, TX2, 9, tyX2, uw_2, rfl, by decide, ax_in 227 (by decide +kernel) rfl, tyX2_ok, nmX2, by decide +kernel⟩
theorem fl_2_46 : ax_fl RX2 46 2 7 := ⟨RX2, TX2, 9, tyX2, uw_2, rfl, by decide, ax_in 228 (by decide +kernel) rfl, tyX2_ok, nmX2, by decide +kernel⟩
theorem fl_2_49 : ax_fl RX2 49 2 8 := ⟨RX2, TX2, 9, tyX2, uw_2, rfl, by decide, ax_in 229 (by decide +kernel) rfl, tyX2_ok, nmX2, by decide +kernel⟩
theorem fl_4_9 : ax_fl RX4 9 4 0 := ⟨RX4, TX4, 8, tyX4, uw_4, rfl, by decide, ax_in 249 (by decide +kernel) rfl, tyX4_ok, nmX4, by decide +kernel⟩
theorem fl_8_198 : ax_fl RX8 198 4 0 := ⟨RX4, TX4, 8, tyX4, uw_4, rfl, by decide, ax_in 250 (by decide +kernel) rfl, tyX4_ok, nmX4, by decide +kernel⟩
theorem fl_4_107 : ax_fl RX4 107 4 1 := ⟨RX4, TX4, 8, tyX4, uw_4, rfl, by decide, ax_in 251 (by decide +kernel) rfl, tyX4_ok, nmX4, by decide +kernel⟩
theorem fl_8_193 : ax_fl RX8 193 4 1 := ⟨RX4, TX4, 8, tyX4, uw_4, rfl, by decide, ax_in 252 (by decide +kernel) rfl, tyX4_ok, nmX4, by decide +kernel⟩
theorem fl_4_113 : ax_fl RX4 113 4 2 := ⟨RX4, TX4, 8, tyX4, uw_4, rfl, by decide, ax_in 253 (by decide +kernel) rfl, tyX4_ok, nmX4, by decide +kernel⟩
theorem fl_8_195 : ax_fl RX8 195 4 2 := ⟨RX4, TX4, 8, tyX4, uw_4, rfl, by decide, ax_in 254 (by decide +kernel) rfl, tyX4_ok, nmX4, by decide +kernel⟩
theorem fl_4_18 : ax_fl RX4 18 4 3 := ⟨RX4, TX4, 8, tyX4, uw_4, rfl, by decide, ax_in 255 (by decide +kernel) rfl, tyX4_ok, nmX4, by decide +kernel⟩
theorem fl_8_16 : ax_fl RX8 16 4 3 := ⟨RX4, TX4, 8, tyX4, uw_4, rfl, by decide, ax_in 256 (by decide +kernel) rfl, tyX4_ok, nmX4, by decide +kernel⟩
theorem fl_4_22 : ax_fl RX4 22 4 4 := ⟨RX4, TX4, 8, tyX4, uw_4, rfl, by decide, ax_in 257 (by decide +kernel) rfl, tyX4_ok, nmX4, by decide +kernel⟩
theorem fl_4_26 : ax_fl RX4 26 4 5 := ⟨RX4, TX4, 8, tyX4, uw_4, rfl, by decide, ax_in 258 (by decide +kernel) rfl, tyX4_ok, nmX4, by decide +kernel⟩
theorem fl_4_29 : ax_fl RX4 29 4 6 := ⟨RX4, TX4, 8, tyX4, uw_4, rfl, by decide, ax_in 259 (by decide +kernel) rfl, tyX4_ok, nmX4, by decide +kernel⟩
theorem fl_4_36 : ax_fl RX4 36 4 7 := ⟨RX4, TX4, 8, tyX4, uw_4, rfl, by decide, ax_in 260 (by decide +kernel) rfl, tyX4_ok, nmX4, by decide +kernel⟩
theorem fl_7_22 : ax_fl RX7 22 7 0 := ⟨RX7, TX7, 7, tyX7, uw_7, rfl, by decide, ax_in 285 (by decide +kernel) rfl, tyX7_ok, nmX7, by decide +kernel⟩
theorem fl_8_244 : ax_fl RX8 244 7 0 := ⟨RX7, TX7, 7, tyX7, uw_7, rfl, by decide, ax_in 286 (by decide +kernel) rfl, tyX7_ok, nmX7, by decide +kernel⟩
theorem fl_7_9 : ax_fl RX7 9 7 1 := ⟨RX7, TX7, 7, tyX7, uw_7, rfl, by decide, ax_in 287 (by decide +kernel) rfl, tyX7_ok, nmX7, by decide +kernel⟩
theorem fl_7_13 : ax_fl RX7 13 7 2 := ⟨RX7, TX7, 7, tyX7, uw_7, rfl, by decide, ax_in 288 (by decide +kernel) rfl, tyX7_ok, nmX7, by decide +kernel⟩
theorem fl_7_16 : ax_fl RX7 16 7 3 := ⟨RX7, TX7, 7, tyX7, uw_7, rfl, by decide, ax_in 289 (by decide +kernel) rfl, tyX7_ok, nmX7, by decide +kernel⟩
theorem fl_7_19 : ax_fl RX7 19 7 4 := ⟨RX7, TX7, 7, tyX7, uw_7, rfl, by decide, ax_in 290 (by decide +kernel) rfl, tyX7_ok, nmX7, by decide +kernel⟩
theorem fl_7_48 : ax_fl RX7 48 7 5 := ⟨RX7, TX7, 7, tyX7, uw_7, rfl, by decide, ax_in 291 (by decide +kernel) rfl, tyX7_ok, nmX7, by decide +kernel⟩
theorem fl_7_26 : ax_fl RX7 26 7 6 := ⟨RX7, TX7, 7, tyX7, uw_7, rfl, by decide, ax_in 292 (by decide +kernel) rfl, tyX7_ok, nmX7, by decide +kernel⟩
theorem fl_3_18 : ax_fl RX3 18 3 0 := ⟨RX3, TX3, 3, tyX3, uw_3, rfl, by decide, ax_in 314 (by decide +kernel) rfl, tyX3_ok, nmX3, by decide +kernel⟩
theorem fl_8_306 : ax_fl RX8 306 3 0 := ⟨RX3, TX3, 3, tyX3, uw_3, rfl, by decide, ax_in 315 (by decide +kernel) rfl, tyX3_ok, nmX3, by decide +kernel⟩
theorem fl_3_11 : ax_fl RX3 11 3 1 := ⟨RX3, TX3, 3, tyX3, uw_3, rfl, by decide, ax_in 316 (by decide +kernel) rfl, tyX3_ok, nmX3, by decide +kernel⟩
theorem fl_3_15 : ax_fl RX3 15 3 2 := ⟨RX3, TX3, 3, tyX3, uw_3, rfl, by decide, ax_in 317 (by decide +kernel) rfl, tyX3_ok, nmX3, by decide +kernel⟩
theorem fl_6_13 : ax_fl RX6 13 6 0 := ⟨RX6, TX6, 4, tyX6, uw_6, rfl, by decide, ax_in 333 (by decide +kernel) rfl, tyX6_ok, nmX6, by decide +kernel⟩
theorem fl_8_168 : ax_fl RX8 168 6 0 := ⟨RX6, TX6, 4, tyX6, uw_6, rfl, by decide, ax_in 334 (by decide +kernel) rfl, tyX6_ok, nmX6, by decide +kernel⟩
theorem fl_6_16 : ax_fl RX6 16 6 1 := ⟨RX6, TX6, 4, tyX6, uw_6, rfl, by decide, ax_in 335 (by decide +kernel) rfl, tyX6_ok, nmX6, by decide +kernel⟩
theorem fl_8_290 : ax_fl RX8 290 6 1 := ⟨RX6, TX6, 4, tyX6, uw_6, rfl, by decide, ax_in 336 (by decide +kernel) rfl, tyX6_ok, nmX6, by decide +kernel⟩
theorem fl_6_20 : ax_fl RX6 20 6 2 := ⟨RX6, TX6, 4, tyX6, uw_6, rfl, by decide, ax_in 337 (by decide +kernel) rfl, tyX6_ok, nmX6, by decide +kernel⟩
theorem fl_8_160 : ax_fl RX8 160 6 2 := ⟨RX6, TX6, 4, tyX6, uw_6, rfl, by decide, ax_in 338 (by decide +kernel) rfl, tyX6_ok, nmX6, by decide +kernel⟩
theorem fl_6_27 : ax_fl RX6 27 6 3 := ⟨RX6, TX6, 4, tyX6, uw_6, rfl, by decide, ax_in 339 (by decide +kernel) rfl, tyX6_ok, nmX6, by decide +kernel⟩
theorem fl_8_313 : ax_fl RX8 313 6 3 := ⟨RX6, TX6, 4, tyX6, uw_6, rfl, by decide, ax_in 340 (by decide +kernel) rfl, tyX6_ok, nmX6, by decide +kernel⟩
theorem fl_8_10 : ax_fl RX8 10 8 0 := ⟨RX8, TX8, 11, tyX8, uw_8, rfl, by decide, ax_in 350 (by decide +kernel) rfl, tyX8_ok, nmX8, by decide +kernel⟩
theorem fl_8_20 : ax_fl RX8 20 8 1 := ⟨RX8, TX8, 11, tyX8, uw_8, rfl, by decide, ax_in 351 (by decide +kernel) rfl, tyX8_ok, nmX8, by decide +kernel⟩
theorem fl_8_27 : ax_fl RX8 27 8 2 := ⟨RX8, TX8, 11, tyX8, uw_8, rfl, by decide, ax_in 352 (by decide +kernel) rfl, tyX8_ok, nmX8, by decide +kernel⟩
theorem fl_8_34 : ax_fl RX8 34 8 3 := ⟨RX8, TX8, 11, tyX8, uw_8, rfl, by decide, ax_in 353 (by decide +kernel) rfl, tyX8_ok, nmX8, by decide +kernel⟩
theorem fl_8_41 : ax_fl RX8 41 8 4 := ⟨RX8, TX8, 11, tyX8, uw_8, rfl, by decide, ax_in 354 (by decide +kernel) rfl, tyX8_ok, nmX8, by decide +kernel⟩
theorem fl_8_45 : ax_fl RX8 45 8 5 := ⟨RX8, TX8, 11, tyX8, uw_8, rfl, by decide, ax_in 355 (by decide +kernel) rfl, tyX8_ok, nmX8, by decide +kernel⟩
theorem fl_8_52 : ax_fl RX8 52 8 6 := ⟨RX8, TX8, 11, tyX8, uw_8, rfl, by decide, ax_in 356 (by decide +kernel) rfl, tyX8_ok, nmX8, by decide +kernel⟩
theorem fl_8_59 : ax_fl RX8 59 8 7 := ⟨RX8, TX8, 11, tyX8, uw_8, rfl, by decide, ax_in 357 (by decide +kernel) rfl, tyX8_ok, nmX8, by decide +kernel⟩
theorem fl_8_63 : ax_fl RX8 63 8 8 := ⟨RX8, TX8, 11, tyX8, uw_8, rfl, by decide, ax_in 358 (by decide +kernel) rfl, tyX8_ok, nmX8, by decide +kernel⟩
theorem fl_8_67 : ax_fl RX8 67 8 9 := ⟨RX8, TX8, 11, tyX8, uw_8, rfl, by decide, ax_in 359 (by decide +kernel) rfl, tyX8_ok, nmX8, by decide +kernel⟩
theorem fl_8_71 : ax_fl RX8 71 8 10 := ⟨RX8, TX8, 11, tyX8, uw_8, rfl, by decide, ax_in 360 (by decide +kernel) rfl, tyX8_ok, nmX8, by decide +kernel⟩
theorem fl_9_7 : ax_fl RX9 7 9 0 := ⟨RX9, TX9, 39, tyX9, uw_9, rfl, by decide, ax_in 927 (by decide +kernel) rfl, tyX9_ok, nmX9, by decide +kernel⟩
theorem fl_9_13 : ax_fl RX9 13 9 1 := ⟨RX9, TX9, 39, tyX9, uw_9, rfl, by decide, ax_in 928 (by decide +kernel) rfl, tyX9_ok, nmX9, by decide +kernel⟩
theorem fl_9_107 : ax_fl RX9 107 9 2 := ⟨RX9, TX9, 39, tyX9, uw_9, rfl, by decide, ax_in 929 (by decide +kernel) rfl, tyX9_ok, nmX9, by decide +kernel⟩
theorem fl_9_16 : ax_fl RX9 16 9 3 := ⟨RX9, TX9, 39, tyX9, uw_9, rfl, by decide, ax_in 930 (by decide +kernel) rfl, tyX9_ok, nmX9, by decide +kernel⟩
theorem fl_9_19 : ax_fl RX9 19 9 4 := ⟨RX9, TX9, 39, tyX9, uw_9, rfl, by decide, ax_in 931 (by decide +kernel) rfl, tyX9_ok, nmX9, by decide +kernel⟩
theorem fl_9_22 : ax_fl RX9 22 9 5 := ⟨RX9, TX9, 39, tyX9, uw_9, rfl, by decide, ax_in 932 (by decide +kernel) rfl, tyX9_ok, nmX9, by decide +kernel⟩
theorem fl_9_25 : ax_fl RX9 25 9 6 := ⟨RX9, TX9, 39, tyX9, uw_9, rfl, by decide, ax_in 933 (by decide +kernel) rfl, tyX9_ok, nmX9, by decide +kernel⟩
theorem fl_9_28 : ax_fl RX9 28 9 7 := ⟨RX9, TX9, 39, tyX9, uw_9, rfl, by decide, ax_in 934 (by decide +kernel) rfl, tyX9_ok, nmX9, by decide +kernel⟩
theorem fl_9_123 : ax_fl RX9 123 9 8 := ⟨RX9, TX9, 39, tyX9, uw_9, rfl, by decide, ax_in 935 (by decide +kernel) rfl, tyX9_ok, nmX9, by decide +kernel⟩
theorem fl_9_31 : ax_fl RX9 31 9 9 := ⟨RX9, TX9, 39, tyX9, uw_9, rfl, by decide, ax_in 936 (by decide +kernel) rfl, tyX9_ok, nmX9, by decide +kernel⟩
theorem fl_9_34 : ax_fl RX9 34 9 10 := ⟨RX9, TX9, 39, tyX9, uw_9, rfl, by decide, ax_in 937 (by decide +kernel) rfl, tyX9_ok, nmX9, by decide +kernel⟩
theorem fl_9_37 : ax_fl RX9 37 9 11 := ⟨RX9, TX9, 39, tyX9, uw_9, rfl, by decide, ax_in 938 (by decide +kernel) rfl, tyX9_ok, nmX9, by decide +kernel⟩
theorem fl_9_40 : ax_fl RX9 40 9 12 := ⟨RX9, TX9, 39, tyX9, uw_9, rfl, by decide, ax_in 939 (by decide +kernel) rfl, tyX9_ok, nmX9, by decide +kernel⟩
theorem fl_9_43 : ax_fl RX9 43 9 13 := ⟨RX9, TX9, 39, tyX9, uw_9, rfl, by decide, ax_in 940 (by decide +kernel) rfl, tyX9_ok, nmX9, by decide +kernel⟩
theorem fl_9_46 : ax_fl RX9 46 9 14 := ⟨RX9, TX9, 39, tyX9, uw_9, rfl, by decide, ax_in 941 (by decide +kernel) rfl, tyX9_ok, nmX9, by decide +kernel⟩
theorem fl_9_49 : ax_fl RX9 49 9 15 := ⟨RX9, TX9, 39, tyX9, uw_9, rfl, by decide, ax_in 942 (by decide +kernel) rfl, tyX9_ok, nmX9, by decide +kernel⟩
theorem fl_9_52 : ax_fl RX9 52 9 16 := ⟨RX9, TX9, 39, tyX9, uw_9, rfl, by decide, ax_in 943 (by decide +kernel) rfl, tyX9_ok, nmX9, by decide +kernel⟩
theorem fl_9_55 : ax_fl RX9 55 9 17 := ⟨RX9, TX9, 39, tyX9, uw_9, rfl, by decide, ax_in 944 (by decide +kernel) rfl, tyX9_ok, nmX9, by decide +kernel⟩
theorem fl_9_58 : ax_fl RX9 58 9 18 := ⟨RX9, TX9, 39, tyX9, uw_9, rfl, by decide, ax_in 945 (by decide +kernel) rfl, tyX9_ok, nmX9, by decide +kernel⟩
theorem fl_9_61 : ax_fl RX9 61 9 19 := ⟨RX9, TX9, 39, tyX9, uw_9, rfl, by decide, ax_in 946 (by decide +kernel) rfl, tyX9_ok, nmX9, by decide +kernel⟩
theorem fl_9_64 : ax_fl RX9 64 9 20 := ⟨RX9, TX9, 39, tyX9, uw_9, rfl, by decide, ax_in 947 (by decide +kernel) rfl, tyX9_ok, nmX9, by decide +kernel⟩
theorem fl_9_67 : ax_fl RX9 67 9 21 := ⟨RX9, TX9, 39, tyX9, uw_9, rfl, by decide, ax_in 948 (by decide +kernel) rfl, tyX9_ok, nmX9, by decide +kernel⟩
theorem fl_9_189 : ax_fl RX9 189 9 22 := ⟨RX9, TX9, 39, tyX9, uw_9, rfl, by decide, ax_in 949 (by decide +kernel) rfl, tyX9_ok, nmX9, by decide +kernel⟩
theorem fl_9_192 : ax_fl RX9 192 9 23 := ⟨RX9, TX9, 39, tyX9, uw_9, rfl, by decide, ax_in 950 (by decide +kernel) rfl, tyX9_ok, nmX9, by decide +kernel⟩
theorem fl_9_205 : ax_fl RX9 205 9 24 := ⟨RX9, TX9, 39, tyX9, uw_9, rfl, by decide, ax_in 951 (by decide +kernel) rfl, tyX9_ok, nmX9, by decide +kernel⟩
theorem fl_9_208 : ax_fl RX9 208 9 25 := ⟨RX9, TX9, 39, tyX9, uw_9, rfl, by decide, ax_in 952 (by decide +kernel) rfl, tyX9_ok, nmX9, by decide +kernel⟩
theorem fl_9_243 : ax_fl RX9 243 9 26 := ⟨RX9, TX9, 39, tyX9, uw_9, rfl, by decide, ax_in 953 (by decide +kernel) rfl, tyX9_ok, nmX9, by decide +kernel⟩
theorem fl_9_70 : ax_fl RX9 70 9 27 := ⟨RX9, TX9, 39, tyX9, uw_9, rfl, by decide, ax_in 954 (by decide +kernel) rfl, tyX9_ok, nmX9, by decide +kernel⟩
theorem fl_9_73 : ax_fl RX9 73 9 28 := ⟨RX9, TX9, 39, tyX9, uw_9, rfl, by decide, ax_in 955 (by decide +kernel) rfl, tyX9_ok, nmX9, by decide +kernel⟩
theorem fl_9_76 : ax_fl RX9 76 9 29 := ⟨RX9, TX9, 39, tyX9, uw_9, rfl, by decide, ax_in 956 (by decide +kernel) rfl, tyX9_ok, nmX9, by decide +kernel⟩
theorem fl_9_255 : ax_fl RX9 255 9 30 := ⟨RX9, TX9, 39, tyX9, uw_9, rfl, by decide, ax_in 957 (by decide +kernel) rfl, tyX9_ok, nmX9, by decide +kernel⟩
theorem fl_9_79 : ax_fl RX9 79 9 31 := ⟨RX9, TX9, 39, tyX9, uw_9, rfl, by decide, ax_in 958 (by decide +kernel) rfl, tyX9_ok, nmX9, by decide +kernel⟩
theorem fl_9_82 : ax_fl RX9 82 9 32 := ⟨RX9, TX9, 39, tyX9, uw_9, rfl, by decide, ax_in 959 (by decide +kernel) rfl, tyX9_ok, nmX9, by decide +kernel⟩
theorem fl_9_85 : ax_fl RX9 85 9 33 := ⟨RX9, TX9, 39, tyX9, uw_9, rfl, by decide, ax_in 960 (by decide +kernel) rfl, tyX9_ok, nmX9, by decide +kernel⟩
theorem fl_9_89 : ax_fl RX9 89 9 34 := ⟨RX9, TX9, 39, tyX9, uw_9, rfl, by decide, ax_in 961 (by decide +kernel) rfl, tyX9_ok, nmX9, by decide +kernel⟩
theorem fl_9_92 : ax_fl RX9 92 9 35 := ⟨RX9, TX9, 39, tyX9, uw_9, rfl, by decide, ax_in 962 (by decide +kernel) rfl, tyX9_ok, nmX9, by decide +kernel⟩
theorem fl_9_95 : ax_fl RX9 95 9 36 := ⟨RX9, TX9, 39, tyX9, uw_9, rfl, by decide, ax_in 963 (by decide +kernel) rfl, tyX9_ok, nmX9, by decide +kernel⟩
theorem fl_9_98 : ax_fl RX9 98 9 37 := ⟨RX9, TX9, 39, tyX9, uw_9, rfl, by decide, ax_in 964 (by decide +kernel) rfl, tyX9_ok, nmX9, by decide +kernel⟩
theorem fl_9_274 : ax_fl RX9 274 9 38 := ⟨RX9, TX9, 39, tyX9, uw_9, rfl, by decide, ax_in 965 (by decide +kernel) rfl, tyX9_ok, nmX9, by decide +kernel⟩
def md_X8_type : ax_Md := (yX8_type, cX8_type, 3, (some .int))
theorem vm_X8_type : ax_vm md_X8_type 2 := ⟨⟨ax_in 387 (by decide +kernel) rfl, ax_in 65 (by decide +kernel) rfl, ⟨by decide, by decide⟩, by decide +kernel, by decide⟩, ax_in 385 (by decide +kernel) rfl, ax_in 386 (by decide +kernel) rfl⟩
def md_X8_within : ax_Md := (yX8_within, cX8_within, 2, (some .boolean))
theorem st_X8_within : ax_st md_X8_within 2 := ⟨⟨ax_in 390 (by decide +kernel) rfl, ax_in 65 (by decide +kernel) rfl, ⟨by decide, by decide⟩, by decide +kernel, by decide⟩, ax_in 389 (by decide +kernel) rfl⟩
def md_X8_nightChanged : ax_Md := (yX8_nightChanged, cX8_nightChanged, 1, none)
theorem vm_X8_nightChanged : ax_vm md_X8_nightChanged 0 := ⟨⟨ax_in 394 (by decide +kernel) rfl, ax_in 65 (by decide +kernel) rfl, ⟨by decide, by decide⟩, by decide +kernel, by decide⟩, ax_in 393 (by decide +kernel) rfl, ax_in 0 (by decide +kernel) rfl⟩
def md_X0_take : ax_Md := (yX0_take, cX0_take, 3, (some .int))
theorem vm_X0_take : ax_vm md_X0_take 1 := ⟨⟨ax_in 398 (by decide +kernel) rfl, ax_in 68 (by decide +kernel) rfl, ⟨by decide, by decide⟩, by decide +kernel, by decide⟩, ax_in 396 (by decide +kernel) rfl, ax_in 397 (by decide +kernel) rfl⟩
def md_X0_goesOn : ax_Md := (yX0_goesOn, cX0_goesOn, 2, (some .boolean))
theorem vm_X0_goesOn : ax_vm md_X0_goesOn 1 := ⟨⟨ax_in 402 (by decide +kernel) rfl, ax_in 68 (by decide +kernel) rfl, ⟨by decide, by decide⟩, by decide +kernel, by decide⟩, ax_in 401 (by decide +kernel) rfl, ax_in 1 (by decide +kernel) rfl⟩
def md_X8_kindOf : ax_Md := (yX8_kindOf, cX8_kindOf, 1, (some .int))
theorem st_X8_kindOf : ax_st md_X8_kindOf 1 := ⟨⟨ax_in 405 (by decide +kernel) rfl, ax_in 65 (by decide +kernel) rfl, ⟨by decide, by decide⟩, by decide +kernel, by decide⟩, ax_in 404 (by decide +kernel) rfl⟩
def md_X0_takeInto : ax_Md := (yX0_takeInto, cX0_takeInto, 3, (some .boolean))
theorem vm_X0_takeInto : ax_vm md_X0_takeInto 2 := ⟨⟨ax_in 409 (by decide +kernel) rfl, ax_in 68 (by decide +kernel) rfl, ⟨by decide, by decide⟩, by decide +kernel, by decide⟩, ax_in 408 (by decide +kernel) rfl, ax_in 2 (by decide +kernel) rfl⟩
def md_X8_figureOf : ax_Md := (yX8_figureOf, cX8_figureOf, 4, (some .int))
theorem st_X8_figureOf : ax_st md_X8_figureOf 3 := ⟨⟨ax_in 412 (by decide +kernel) rfl, ax_in 65 (by decide +kernel) rfl, ⟨by decide, by decide⟩, by decide +kernel, by decide⟩, ax_in 411 (by decide +kernel) rfl⟩
def md_X0_takeWho : ax_Md := (yX0_takeWho, cX0_takeWho, 3, (some .boolean))
theorem vm_X0_takeWho : ax_vm md_X0_takeWho 1 := ⟨⟨ax_in 416 (by decide +kernel) rfl, ax_in 68 (by decide +kernel) rfl, ⟨by decide, by decide⟩, by decide +kernel, by decide⟩, ax_in 415 (by decide +kernel) rfl, ax_in 3 (by decide +kernel) rfl⟩
def md_X8_hasBit : ax_Md := (yX8_hasBit, cX8_hasBit, 2, (some .boolean))
theorem st_X8_hasBit : ax_st md_X8_hasBit 2 := ⟨⟨ax_in 420 (by decide +kernel) rfl, ax_in 65 (by decide +kernel) rfl, ⟨by decide, by decide⟩, by decide +kernel, by decide⟩, ax_in 419 (by decide +kernel) rfl⟩
def md_X5_take : ax_Md := (yX5_take, cX5_take, 3, (some .int))
theorem vm_X5_take : ax_vm md_X5_take 1 := ⟨⟨ax_in 424 (by decide +kernel) rfl, ax_in 69 (by decide +kernel) rfl, ⟨by decide, by decide⟩, by decide +kernel, by decide⟩, ax_in 422 (by decide +kernel) rfl, ax_in 423 (by decide +kernel) rfl⟩
def md_X5_goesOn : ax_Md := (yX5_goesOn, cX5_goesOn, 2, (some .boolean))
theorem vm_X5_goesOn : ax_vm md_X5_goesOn 1 := ⟨⟨ax_in 428 (by decide +kernel) rfl, ax_in 69 (by decide +kernel) rfl, ⟨by decide, by decide⟩, by decide +kernel, by decide⟩, ax_in 427 (by decide +kernel) rfl, ax_in 4 (by decide +kernel) rfl⟩
def md_X5_takeKind : ax_Md := (yX5_takeKind, cX5_takeKind, 2, (some .boolean))
theorem vm_X5_takeKind : ax_vm md_X5_takeKind 1 := ⟨⟨ax_in 433 (by decide +kernel) rfl, ax_in 69 (by decide +kernel) rfl, ⟨by decide, by decide⟩, by decide +kernel, by decide⟩, ax_in 432 (by decide +kernel) rfl, ax_in 5 (by decide +kernel) rfl⟩
def md_X5_takeMany : ax_Md := (yX5_takeMany, cX5_takeMany, 2, (some .boolean))
theorem vm_X5_takeMany : ax_vm md_X5_takeMany 1 := ⟨⟨ax_in 438 (by decide +kernel) rfl, ax_in 69 (by decide +kernel) rfl, ⟨by decide, by decide⟩, by decide +kernel, by decide⟩, ax_in 437 (by decide +kernel) rfl, ax_in 6 (by decide +kernel) rfl⟩
def md_X5_say : ax_Md := (yX5_say, cX5_say, 3, none)
theorem vm_X5_say : ax_vm md_X5_say 2 := ⟨⟨ax_in 442 (by decide +kernel) rfl, ax_in 69 (by decide +kernel) rfl, ⟨by decide, by decide⟩, by decide +kernel, by decide⟩, ax_in 441 (by decide +kernel) rfl, ax_in 7 (by decide +kernel) rfl⟩
def md_X5_takeMark : ax_Md := (yX5_takeMark, cX5_takeMark, 2, (some .boolean))
theorem vm_X5_takeMark : ax_vm md_X5_takeMark 1 := ⟨⟨ax_in 446 (by decide +kernel) rfl, ax_in 69 (by decide +kernel) rfl, ⟨by decide, by decide⟩, by decide +kernel, by decide⟩, ax_in 445 (by decide +kernel) rfl, ax_in 8 (by decide +kernel) rfl⟩
def md_X8_wipe : ax_Md := (yX8_wipe, cX8_wipe, 2, (some .int))
theorem vm_X8_wipe : ax_vm md_X8_wipe 1 := ⟨⟨ax_in 450 (by decide +kernel) rfl, ax_in 65 (by decide +kernel) rfl, ⟨by decide, by decide⟩, by decide +kernel, by decide⟩, ax_in 448 (by decide +kernel) rfl, ax_in 449 (by decide +kernel) rfl⟩
def md_X0_clear : ax_Md := (yX0_clear, cX0_clear, 2, (some .int))
theorem vm_X0_clear : ax_vm md_X0_clear 0 := ⟨⟨ax_in 454 (by decide +kernel) rfl, ax_in 68 (by decide +kernel) rfl, ⟨by decide, by decide⟩, by decide +kernel, by decide⟩, ax_in 452 (by decide +kernel) rfl, ax_in 453 (by decide +kernel) rfl⟩
def md_X5_clear : ax_Md := (yX5_clear, cX5_clear, 3, (some .int))
theorem vm_X5_clear : ax_vm md_X5_clear 0 := ⟨⟨ax_in 458 (by decide +kernel) rfl, ax_in 69 (by decide +kernel) rfl, ⟨by decide, by decide⟩, by decide +kernel, by decide⟩, ax_in 456 (by decide +kernel) rfl, ax_in 457 (by decide +kernel) rfl⟩
def md_X8_fault : ax_Md := (yX8_fault, cX8_fault, 2, (some .int))
theorem vm_X8_fault : ax_vm md_X8_fault 1 := ⟨⟨ax_in 462 (by decide +kernel) rfl, ax_in 65 (by decide +kernel) rfl, ⟨by decide, by decide⟩, by decide +kernel, by decide⟩, ax_in 460 (by decide +kernel) rfl, ax_in 461 (by decide +kernel) rfl⟩
def md_X8_deed : ax_Md := (yX8_deed, cX8_deed, 3, (some .int))
theorem vm_X8_deed : ax_vm md_X8_deed 2 := ⟨⟨ax_in 466 (by decide +kernel) rfl, ax_in 65 (by decide +kernel) rfl, ⟨by decide, by decide⟩, by decide +kernel, by decide⟩, ax_in 464 (by decide +kernel) rfl, ax_in 465 (by decide +kernel) rfl⟩
def md_X8_isDeed : ax_Md := (yX8_isDeed, cX8_isDeed, 2, (some .boolean))
theorem vm_X8_isDeed : ax_vm md_X8_isDeed 1 := ⟨⟨ax_in 470 (by decide +kernel) rfl, ax_in 65 (by decide +kernel) rfl, ⟨by decide, by decide⟩, by decide +kernel, by decide⟩, ax_in 469 (by decide +kernel) rfl, ax_in 9 (by decide +kernel) rfl⟩
def md_X8_rule : ax_Md := (yX8_rule, cX8_rule, 4, (some .int))
theorem vm_X8_rule : ax_vm md_X8_rule 2 := ⟨⟨ax_in 474 (by decide +kernel) rfl, ax_in 65 (by decide +kernel) rfl, ⟨by decide, by decide⟩, by decide +kernel, by decide⟩, ax_in 472 (by decide +kernel) rfl, ax_in 473 (by decide +kernel) rfl⟩
def md_X5_needOf : ax_Md := (yX5_needOf, cX5_needOf, 2, (some .int))
theorem vm_X5_needOf : ax_vm md_X5_needOf 1 := ⟨⟨ax_in 478 (by decide +kernel) rfl, ax_in 69 (by decide +kernel) rfl, ⟨by decide, by decide⟩, by decide +kernel, by decide⟩, ax_in 476 (by decide +kernel) rfl, ax_in 477 (by decide +kernel) rfl⟩
def md_X5_asksWeather : ax_Md := (yX5_asksWeather, cX5_asksWeather, 2, (some .boolean))
theorem vm_X5_asksWeather : ax_vm md_X5_asksWeather 1 := ⟨⟨ax_in 482 (by decide +kernel) rfl, ax_in 69 (by decide +kernel) rfl, ⟨by decide, by decide⟩, by decide +kernel, by decide⟩, ax_in 480 (by decide +kernel) rfl, ax_in 481 (by decide +kernel) rfl⟩
def md_X5_asksPlace : ax_Md := (yX5_asksPlace, cX5_asksPlace, 2, (some .boolean))
theorem vm_X5_asksPlace : ax_vm md_X5_asksPlace 1 := ⟨⟨ax_in 486 (by decide +kernel) rfl, ax_in 69 (by decide +kernel) rfl, ⟨by decide, by decide⟩, by decide +kernel, by decide⟩, ax_in 484 (by decide +kernel) rfl, ax_in 485 (by decide +kernel) rfl⟩
def md_X8_person : ax_Md := (yX8_person, cX8_person, 4, (some .int))
theorem vm_X8_person : ax_vm md_X8_person 3 := ⟨⟨ax_in 490 (by decide +kernel) rfl, ax_in 65 (by decide +kernel) rfl, ⟨by decide, by decide⟩, by decide +kernel, by decide⟩, ax_in 488 (by decide +kernel) rfl, ax_in 489 (by decide +kernel) rfl⟩
def md_X1_changeTrait : ax_Md := (yX1_changeTrait, cX1_changeTrait, 5, (some .int))
theorem vm_X1_changeTrait : ax_vm md_X1_changeTrait 3 := ⟨⟨ax_in 496 (by decide +kernel) rfl, ax_in 70 (by decide +kernel) rfl, ⟨by decide, by decide⟩, by decide +kernel, by decide⟩, ax_in 494 (by decide +kernel) rfl, ax_in 495 (by decide +kernel) rfl⟩
def md_X8_weather : ax_Md := (yX8_weather, cX8_weather, 3, (some .int))
theorem vm_X8_weather : ax_vm md_X8_weather 2 := ⟨⟨ax_in 500 (by decide +kernel) rfl, ax_in 65 (by decide +kernel) rfl, ⟨by decide, by decide⟩, by decide +kernel, by decide⟩, ax_in 498 (by decide +kernel) rfl, ax_in 499 (by decide +kernel) rfl⟩
def md_X1_changeSky : ax_Md := (yX1_changeSky, cX1_changeSky, 4, (some .int))
theorem vm_X1_changeSky : ax_vm md_X1_changeSky 2 := ⟨⟨ax_in 504 (by decide +kernel) rfl, ax_in 70 (by decide +kernel) rfl, ⟨by decide, by decide⟩, by decide +kernel, by decide⟩, ax_in 502 (by decide +kernel) rfl, ax_in 503 (by decide +kernel) rfl⟩
def md_X8_set : ax_Md := (yX8_set, cX8_set, 3, (some .int))
theorem vm_X8_set : ax_vm md_X8_set 2 := ⟨⟨ax_in 508 (by decide +kernel) rfl, ax_in 65 (by decide +kernel) rfl, ⟨by decide, by decide⟩, by decide +kernel, by decide⟩, ax_in 506 (by decide +kernel) rfl, ax_in 507 (by decide +kernel) rfl⟩
def md_X1_changeSetting : ax_Md := (yX1_changeSetting, cX1_changeSetting, 4, (some .int))
theorem vm_X1_changeSetting : ax_vm md_X1_changeSetting 2 := ⟨⟨ax_in 514 (by decide +kernel) rfl, ax_in 70 (by decide +kernel) rfl, ⟨by decide, by decide⟩, by decide +kernel, by decide⟩, ax_in 512 (by decide +kernel) rfl, ax_in 513 (by decide +kernel) rfl⟩
def md_X8_read : ax_Md := (yX8_read, cX8_read, 5, (some .int))
theorem vm_X8_read : ax_vm md_X8_read 1 := ⟨⟨ax_in 518 (by decide +kernel) rfl, ax_in 65 (by decide +kernel) rfl, ⟨by decide, by decide⟩, by decide +kernel, by decide⟩, ax_in 516 (by decide +kernel) rfl, ax_in 517 (by decide +kernel) rfl⟩
def md_X6_isNumber : ax_Md := (yX6_isNumber, cX6_isNumber, 1, (some .boolean))
theorem st_X6_isNumber : ax_st md_X6_isNumber 1 := ⟨⟨ax_in 521 (by decide +kernel) rfl, ax_in 73 (by decide +kernel) rfl, ⟨by decide, by decide⟩, by decide +kernel, by decide⟩, ax_in 520 (by decide +kernel) rfl⟩
def md_X6_isLost : ax_Md := (yX6_isLost, cX6_isLost, 2, (some .boolean))
theorem vm_X6_isLost : ax_vm md_X6_isLost 1 := ⟨⟨ax_in 526 (by decide +kernel) rfl, ax_in 73 (by decide +kernel) rfl, ⟨by decide, by decide⟩, by decide +kernel, by decide⟩, ax_in 524 (by decide +kernel) rfl, ax_in 525 (by decide +kernel) rfl⟩
def md_X6_tell : ax_Md := (yX6_tell, cX6_tell, 2, (some .int))
theorem vm_X6_tell : ax_vm md_X6_tell 1 := ⟨⟨ax_in 530 (by decide +kernel) rfl, ax_in 73 (by decide +kernel) rfl, ⟨by decide, by decide⟩, by decide +kernel, by decide⟩, ax_in 528 (by decide +kernel) rfl, ax_in 529 (by decide +kernel) rfl⟩
def md_X8_can : ax_Md := (yX8_can, cX8_can, 3, (some .int))
theorem vm_X8_can : ax_vm md_X8_can 2 := ⟨⟨ax_in 537 (by decide +kernel) rfl, ax_in 65 (by decide +kernel) rfl, ⟨by decide, by decide⟩, by decide +kernel, by decide⟩, ax_in 535 (by decide +kernel) rfl, ax_in 536 (by decide +kernel) rfl⟩
def md_X8_reckonOffers : ax_Md := (yX8_reckonOffers, cX8_reckonOffers, 1, none)
theorem vm_X8_reckonOffers : ax_vm md_X8_reckonOffers 0 := ⟨⟨ax_in 541 (by decide +kernel) rfl, ax_in 65 (by decide +kernel) rfl, ⟨by decide, by decide⟩, by decide +kernel, by decide⟩, ax_in 540 (by decide +kernel) rfl, ax_in 10 (by decide +kernel) rfl⟩
def md_X2_reckon : ax_Md := (yX2_reckon, cX2_reckon, 3, none)
theorem vm_X2_reckon : ax_vm md_X2_reckon 0 := ⟨⟨ax_in 545 (by decide +kernel) rfl, ax_in 67 (by decide +kernel) rfl, ⟨by decide, by decide⟩, by decide +kernel, by decide⟩, ax_in 543 (by decide +kernel) rfl, ax_in 544 (by decide +kernel) rfl⟩
def md_X2_sortByPrice : ax_Md := (yX2_sortByPrice, cX2_sortByPrice, 3, none)
theorem vm_X2_sortByPrice : ax_vm md_X2_sortByPrice 0 := ⟨⟨ax_in 549 (by decide +kernel) rfl, ax_in 67 (by decide +kernel) rfl, ⟨by decide, by decide⟩, by decide +kernel, by decide⟩, ax_in 548 (by decide +kernel) rfl, ax_in 11 (by decide +kernel) rfl⟩
def md_X1_trait : ax_Md := (yX1_trait, cX1_trait, 3, (some .int))
theorem vm_X1_trait : ax_vm md_X1_trait 2 := ⟨⟨ax_in 553 (by decide +kernel) rfl, ax_in 70 (by decide +kernel) rfl, ⟨by decide, by decide⟩, by decide +kernel, by decide⟩, ax_in 551 (by decide +kernel) rfl, ax_in 552 (by decide +kernel) rfl⟩
def md_X2_applyRule : ax_Md := (yX2_applyRule, cX2_applyRule, 3, none)
theorem vm_X2_applyRule : ax_vm md_X2_applyRule 1 := ⟨⟨ax_in 557 (by decide +kernel) rfl, ax_in 67 (by decide +kernel) rfl, ⟨by decide, by decide⟩, by decide +kernel, by decide⟩, ax_in 556 (by decide +kernel) rfl, ax_in 12 (by decide +kernel) rfl⟩
def md_X2_reckonOne : ax_Md := (yX2_reckonOne, cX2_reckonOne, 9, none)
theorem vm_X2_reckonOne : ax_vm md_X2_reckonOne 2 := ⟨⟨ax_in 571 (by decide +kernel) rfl, ax_in 67 (by decide +kernel) rfl, ⟨by decide, by decide⟩, by decide +kernel, by decide⟩, ax_in 570 (by decide +kernel) rfl, ax_in 13 (by decide +kernel) rfl⟩
def md_X1_isHere : ax_Md := (yX1_isHere, cX1_isHere, 3, (some .boolean))
theorem vm_X1_isHere : ax_vm md_X1_isHere 2 := ⟨⟨ax_in 576 (by decide +kernel) rfl, ax_in 70 (by decide +kernel) rfl, ⟨by decide, by decide⟩, by decide +kernel, by decide⟩, ax_in 574 (by decide +kernel) rfl, ax_in 575 (by decide +kernel) rfl⟩
def md_X2_isTurned : ax_Md := (yX2_isTurned, cX2_isTurned, 3, (some .boolean))
theorem vm_X2_isTurned : ax_vm md_X2_isTurned 2 := ⟨⟨ax_in 580 (by decide +kernel) rfl, ax_in 67 (by decide +kernel) rfl, ⟨by decide, by decide⟩, by decide +kernel, by decide⟩, ax_in 578 (by decide +kernel) rfl, ax_in 579 (by decide +kernel) rfl⟩
def md_X2_isOpen : ax_Md := (yX2_isOpen, cX2_isOpen, 3, (some .boolean))
theorem vm_X2_isOpen : ax_vm md_X2_isOpen 2 := ⟨⟨ax_in 584 (by decide +kernel) rfl, ax_in 67 (by decide +kernel) rfl, ⟨by decide, by decide⟩, by decide +kernel, by decide⟩, ax_in 582 (by decide +kernel) rfl, ax_in 583 (by decide +kernel) rfl⟩
def md_X8_hours : ax_Md := (yX8_hours, cX8_hours, 2, (some .int))
theorem vm_X8_hours : ax_vm md_X8_hours 1 := ⟨⟨ax_in 588 (by decide +kernel) rfl, ax_in 65 (by decide +kernel) rfl, ⟨by decide, by decide⟩, by decide +kernel, by decide⟩, ax_in 586 (by decide +kernel) rfl, ax_in 587 (by decide +kernel) rfl⟩
def md_X2_openHours : ax_Md := (yX2_openHours, cX2_openHours, 4, (some .int))
theorem vm_X2_openHours : ax_vm md_X2_openHours 1 := ⟨⟨ax_in 592 (by decide +kernel) rfl, ax_in 67 (by decide +kernel) rfl, ⟨by decide, by decide⟩, by decide +kernel, by decide⟩, ax_in 590 (by decide +kernel) rfl, ax_in 591 (by decide +kernel) rfl⟩
def md_X8_comes : ax_Md := (yX8_comes, cX8_comes, 3, (some .int))
theorem vm_X8_comes : ax_vm md_X8_comes 2 := ⟨⟨ax_in 597 (by decide +kernel) rfl, ax_in 65 (by decide +kernel) rfl, ⟨by decide, by decide⟩, by decide +kernel, by decide⟩, ax_in 595 (by decide +kernel) rfl, ax_in 596 (by decide +kernel) rfl⟩
def md_X2_whoComes : ax_Md := (yX2_whoComes, cX2_whoComes, 3, (some .int))
theorem vm_X2_whoComes : ax_vm md_X2_whoComes 2 := ⟨⟨ax_in 601 (by decide +kernel) rfl, ax_in 67 (by decide +kernel) rfl, ⟨by decide, by decide⟩, by decide +kernel, by decide⟩, ax_in 599 (by decide +kernel) rfl, ax_in 600 (by decide +kernel) rfl⟩
def md_X8_costs : ax_Md := (yX8_costs, cX8_costs, 3, (some .int))
theorem vm_X8_costs : ax_vm md_X8_costs 2 := ⟨⟨ax_in 605 (by decide +kernel) rfl, ax_in 65 (by decide +kernel) rfl, ⟨by decide, by decide⟩, by decide +kernel, by decide⟩, ax_in 603 (by decide +kernel) rfl, ax_in 604 (by decide +kernel) rfl⟩
def md_X2_fullPrice : ax_Md := (yX2_fullPrice, cX2_fullPrice, 3, (some .int))
theorem vm_X2_fullPrice : ax_vm md_X2_fullPrice 2 := ⟨⟨ax_in 609 (by decide +kernel) rfl, ax_in 67 (by decide +kernel) rfl, ⟨by decide, by decide⟩, by decide +kernel, by decide⟩, ax_in 607 (by decide +kernel) rfl, ax_in 608 (by decide +kernel) rfl⟩
def md_X2_priceOfPeople : ax_Md := (yX2_priceOfPeople, cX2_priceOfPeople, 3, (some .int))
theorem vm_X2_priceOfPeople : ax_vm md_X2_priceOfPeople 2 := ⟨⟨ax_in 613 (by decide +kernel) rfl, ax_in 67 (by decide +kernel) rfl, ⟨by decide, by decide⟩, by decide +kernel, by decide⟩, ax_in 611 (by decide +kernel) rfl, ax_in 612 (by decide +kernel) rfl⟩
def md_X8_most : ax_Md := (yX8_most, cX8_most, 2, (some .int))
theorem vm_X8_most : ax_vm md_X8_most 1 := ⟨⟨ax_in 617 (by decide +kernel) rfl, ax_in 65 (by decide +kernel) rfl, ⟨by decide, by decide⟩, by decide +kernel, by decide⟩, ax_in 615 (by decide +kernel) rfl, ax_in 616 (by decide +kernel) rfl⟩
def md_X8_reckonPlan : ax_Md := (yX8_reckonPlan, cX8_reckonPlan, 1, none)
theorem vm_X8_reckonPlan : ax_vm md_X8_reckonPlan 0 := ⟨⟨ax_in 621 (by decide +kernel) rfl, ax_in 65 (by decide +kernel) rfl, ⟨by decide, by decide⟩, by decide +kernel, by decide⟩, ax_in 620 (by decide +kernel) rfl, ax_in 14 (by decide +kernel) rfl⟩
def md_X4_reckon : ax_Md := (yX4_reckon, cX4_reckon, 2, none)
theorem vm_X4_reckon : ax_vm md_X4_reckon 0 := ⟨⟨ax_in 625 (by decide +kernel) rfl, ax_in 66 (by decide +kernel) rfl, ⟨by decide, by decide⟩, by decide +kernel, by decide⟩, ax_in 623 (by decide +kernel) rfl, ax_in 624 (by decide +kernel) rfl⟩
def md_X2_hopefulDeeds : ax_Md := (yX2_hopefulDeeds, cX2_hopefulDeeds, 3, (some .int))
theorem vm_X2_hopefulDeeds : ax_vm md_X2_hopefulDeeds 0 := ⟨⟨ax_in 629 (by decide +kernel) rfl, ax_in 67 (by decide +kernel) rfl, ⟨by decide, by decide⟩, by decide +kernel, by decide⟩, ax_in 627 (by decide +kernel) rfl, ax_in 628 (by decide +kernel) rfl⟩
def md_X4_reckonTogether : ax_Md := (yX4_reckonTogether, cX4_reckonTogether, 10, none)
theorem vm_X4_reckonTogether : ax_vm md_X4_reckonTogether 1 := ⟨⟨ax_in 635 (by decide +kernel) rfl, ax_in 66 (by decide +kernel) rfl, ⟨by decide, by decide⟩, by decide +kernel, by decide⟩, ax_in 634 (by decide +kernel) rfl, ax_in 15 (by decide +kernel) rfl⟩
def md_X4_apartFrom : ax_Md := (yX4_apartFrom, cX4_apartFrom, 5, (some .int))
theorem vm_X4_apartFrom : ax_vm md_X4_apartFrom 2 := ⟨⟨ax_in 640 (by decide +kernel) rfl, ax_in 66 (by decide +kernel) rfl, ⟨by decide, by decide⟩, by decide +kernel, by decide⟩, ax_in 639 (by decide +kernel) rfl, ax_in 16 (by decide +kernel) rfl⟩
def md_X2_areApart : ax_Md := (yX2_areApart, cX2_areApart, 4, (some .boolean))
theorem vm_X2_areApart : ax_vm md_X2_areApart 3 := ⟨⟨ax_in 644 (by decide +kernel) rfl, ax_in 67 (by decide +kernel) rfl, ⟨by decide, by decide⟩, by decide +kernel, by decide⟩, ax_in 642 (by decide +kernel) rfl, ax_in 643 (by decide +kernel) rfl⟩
def md_X4_joinHour : ax_Md := (yX4_joinHour, cX4_joinHour, 6, none)
theorem vm_X4_joinHour : ax_vm md_X4_joinHour 1 := ⟨⟨ax_in 652 (by decide +kernel) rfl, ax_in 66 (by decide +kernel) rfl, ⟨by decide, by decide⟩, by decide +kernel, by decide⟩, ax_in 651 (by decide +kernel) rfl, ax_in 17 (by decide +kernel) rfl⟩
def md_X4_turnedBy : ax_Md := (yX4_turnedBy, cX4_turnedBy, 4, (some .int))
theorem vm_X4_turnedBy : ax_vm md_X4_turnedBy 1 := ⟨⟨ax_in 659 (by decide +kernel) rfl, ax_in 66 (by decide +kernel) rfl, ⟨by decide, by decide⟩, by decide +kernel, by decide⟩, ax_in 658 (by decide +kernel) rfl, ax_in 18 (by decide +kernel) rfl⟩
def md_X4_joinWithRest : ax_Md := (yX4_joinWithRest, cX4_joinWithRest, 7, none)
theorem vm_X4_joinWithRest : ax_vm md_X4_joinWithRest 2 := ⟨⟨ax_in 664 (by decide +kernel) rfl, ax_in 66 (by decide +kernel) rfl, ⟨by decide, by decide⟩, by decide +kernel, by decide⟩, ax_in 663 (by decide +kernel) rfl, ax_in 19 (by decide +kernel) rfl⟩
def md_X4_choose : ax_Md := (yX4_choose, cX4_choose, 7, none)
theorem vm_X4_choose : ax_vm md_X4_choose 0 := ⟨⟨ax_in 668 (by decide +kernel) rfl, ax_in 66 (by decide +kernel) rfl, ⟨by decide, by decide⟩, by decide +kernel, by decide⟩, ax_in 667 (by decide +kernel) rfl, ax_in 20 (by decide +kernel) rfl⟩
def md_X0_worthOf : ax_Md := (yX0_worthOf, cX0_worthOf, 4, (some .int))
theorem vm_X0_worthOf : ax_vm md_X0_worthOf 1 := ⟨⟨ax_in 672 (by decide +kernel) rfl, ax_in 68 (by decide +kernel) rfl, ⟨by decide, by decide⟩, by decide +kernel, by decide⟩, ax_in 670 (by decide +kernel) rfl, ax_in 671 (by decide +kernel) rfl⟩
def md_X8_when : ax_Md := (yX8_when, cX8_when, 2, (some .int))
theorem vm_X8_when : ax_vm md_X8_when 1 := ⟨⟨ax_in 677 (by decide +kernel) rfl, ax_in 65 (by decide +kernel) rfl, ⟨by decide, by decide⟩, by decide +kernel, by decide⟩, ax_in 675 (by decide +kernel) rfl, ax_in 676 (by decide +kernel) rfl⟩
def md_X8_plan : ax_Md := (yX8_plan, cX8_plan, 4, (some .int))
theorem vm_X8_plan : ax_vm md_X8_plan 2 := ⟨⟨ax_in 681 (by decide +kernel) rfl, ax_in 65 (by decide +kernel) rfl, ⟨by decide, by decide⟩, by decide +kernel, by decide⟩, ax_in 679 (by decide +kernel) rfl, ax_in 680 (by decide +kernel) rfl⟩
def md_X2_isPlan : ax_Md := (yX2_isPlan, cX2_isPlan, 3, (some .boolean))
theorem vm_X2_isPlan : ax_vm md_X2_isPlan 1 := ⟨⟨ax_in 685 (by decide +kernel) rfl, ax_in 67 (by decide +kernel) rfl, ⟨by decide, by decide⟩, by decide +kernel, by decide⟩, ax_in 683 (by decide +kernel) rfl, ax_in 684 (by decide +kernel) rfl⟩
def md_X2_fitsBehind : ax_Md := (yX2_fitsBehind, cX2_fitsBehind, 5, (some .boolean))
theorem vm_X2_fitsBehind : ax_vm md_X2_fitsBehind 2 := ⟨⟨ax_in 689 (by decide +kernel) rfl, ax_in 67 (by decide +kernel) rfl, ⟨by decide, by decide⟩, by decide +kernel, by decide⟩, ax_in 688 (by decide +kernel) rfl, ax_in 21 (by decide +kernel) rfl⟩
def md_X2_worthOfPlan : ax_Md := (yX2_worthOfPlan, cX2_worthOfPlan, 4, (some .int))
theorem vm_X2_worthOfPlan : ax_vm md_X2_worthOfPlan 1 := ⟨⟨ax_in 695 (by decide +kernel) rfl, ax_in 67 (by decide +kernel) rfl, ⟨by decide, by decide⟩, by decide +kernel, by decide⟩, ax_in 693 (by decide +kernel) rfl, ax_in 694 (by decide +kernel) rfl⟩
def md_X2_costOfPlan : ax_Md := (yX2_costOfPlan, cX2_costOfPlan, 6, (some .int))
theorem vm_X2_costOfPlan : ax_vm md_X2_costOfPlan 1 := ⟨⟨ax_in 699 (by decide +kernel) rfl, ax_in 67 (by decide +kernel) rfl, ⟨by decide, by decide⟩, by decide +kernel, by decide⟩, ax_in 697 (by decide +kernel) rfl, ax_in 698 (by decide +kernel) rfl⟩
def md_X8_asked : ax_Md := (yX8_asked, cX8_asked, 3, (some .int))
theorem vm_X8_asked : ax_vm md_X8_asked 2 := ⟨⟨ax_in 703 (by decide +kernel) rfl, ax_in 65 (by decide +kernel) rfl, ⟨by decide, by decide⟩, by decide +kernel, by decide⟩, ax_in 701 (by decide +kernel) rfl, ax_in 702 (by decide +kernel) rfl⟩
def md_X2_timesAsked : ax_Md := (yX2_timesAsked, cX2_timesAsked, 5, (some .int))
theorem vm_X2_timesAsked : ax_vm md_X2_timesAsked 2 := ⟨⟨ax_in 707 (by decide +kernel) rfl, ax_in 67 (by decide +kernel) rfl, ⟨by decide, by decide⟩, by decide +kernel, by decide⟩, ax_in 705 (by decide +kernel) rfl, ax_in 706 (by decide +kernel) rfl⟩
def md_X8_crowd : ax_Md := (yX8_crowd, cX8_crowd, 8, (some .int))
theorem vm_X8_crowd : ax_vm md_X8_crowd 1 := ⟨⟨ax_in 712 (by decide +kernel) rfl, ax_in 65 (by decide +kernel) rfl, ⟨by decide, by decide⟩, by decide +kernel, by decide⟩, ax_in 710 (by decide +kernel) rfl, ax_in 711 (by decide +kernel) rfl⟩
def md_X8_likeness : ax_Md := (yX8_likeness, cX8_likeness, 3, (some .int))
theorem vm_X8_likeness : ax_vm md_X8_likeness 2 := ⟨⟨ax_in 716 (by decide +kernel) rfl, ax_in 65 (by decide +kernel) rfl, ⟨by decide, by decide⟩, by decide +kernel, by decide⟩, ax_in 714 (by decide +kernel) rfl, ax_in 715 (by decide +kernel) rfl⟩
def md_X2_tenths : ax_Md := (yX2_tenths, cX2_tenths, 5, (some .int))
theorem vm_X2_tenths : ax_vm md_X2_tenths 2 := ⟨⟨ax_in 720 (by decide +kernel) rfl, ax_in 67 (by decide +kernel) rfl, ⟨by decide, by decide⟩, by decide +kernel, by decide⟩, ax_in 718 (by decide +kernel) rfl, ax_in 719 (by decide +kernel) rfl⟩
def md_X8_odds : ax_Md := (yX8_odds, cX8_odds, 8, (some .long))
theorem vm_X8_odds : ax_vm md_X8_odds 3 := ⟨⟨ax_in 724 (by decide +kernel) rfl, ax_in 65 (by decide +kernel) rfl, ⟨by decide, by decide⟩, by decide +kernel, by decide⟩, ax_in 722 (by decide +kernel) rfl, ax_in 723 (by decide +kernel) rfl⟩
def md_X8_refusal : ax_Md := (yX8_refusal, cX8_refusal, 1, (some .long))
theorem st_X8_refusal : ax_st md_X8_refusal 1 := ⟨⟨ax_in 727 (by decide +kernel) rfl, ax_in 65 (by decide +kernel) rfl, ⟨by decide, by decide⟩, by decide +kernel, by decide⟩, ax_in 726 (by decide +kernel) rfl⟩
def md_X8_lowestTerm : ax_Md := (yX8_lowestTerm, cX8_lowestTerm, 7, (some .long))
theorem st_X8_lowestTerm : ax_st md_X8_lowestTerm 3 := ⟨⟨ax_in 733 (by decide +kernel) rfl, ax_in 65 (by decide +kernel) rfl, ⟨by decide, by decide⟩, by decide +kernel, by decide⟩, ax_in 732 (by decide +kernel) rfl⟩
def md_X8_seen : ax_Md := (yX8_seen, cX8_seen, 4, (some .int))
theorem vm_X8_seen : ax_vm md_X8_seen 3 := ⟨⟨ax_in 737 (by decide +kernel) rfl, ax_in 65 (by decide +kernel) rfl, ⟨by decide, by decide⟩, by decide +kernel, by decide⟩, ax_in 735 (by decide +kernel) rfl, ax_in 736 (by decide +kernel) rfl⟩
def md_X7_isFull : ax_Md := (yX7_isFull, cX7_isFull, 1, (some .boolean))
theorem vm_X7_isFull : ax_vm md_X7_isFull 0 := ⟨⟨ax_in 741 (by decide +kernel) rfl, ax_in 71 (by decide +kernel) rfl, ⟨by decide, by decide⟩, by decide +kernel, by decide⟩, ax_in 739 (by decide +kernel) rfl, ax_in 740 (by decide +kernel) rfl⟩
def md_X7_add : ax_Md := (yX7_add, cX7_add, 5, (some .int))
theorem vm_X7_add : ax_vm md_X7_add 3 := ⟨⟨ax_in 745 (by decide +kernel) rfl, ax_in 71 (by decide +kernel) rfl, ⟨by decide, by decide⟩, by decide +kernel, by decide⟩, ax_in 743 (by decide +kernel) rfl, ax_in 744 (by decide +kernel) rfl⟩
def md_X7_meetFoes : ax_Md := (yX7_meetFoes, cX7_meetFoes, 3, none)
theorem vm_X7_meetFoes : ax_vm md_X7_meetFoes 1 := ⟨⟨ax_in 749 (by decide +kernel) rfl, ax_in 71 (by decide +kernel) rfl, ⟨by decide, by decide⟩, by decide +kernel, by decide⟩, ax_in 748 (by decide +kernel) rfl, ax_in 22 (by decide +kernel) rfl⟩
def md_X7_clash : ax_Md := (yX7_clash, cX7_clash, 5, (some .boolean))
theorem vm_X7_clash : ax_vm md_X7_clash 2 := ⟨⟨ax_in 753 (by decide +kernel) rfl, ax_in 71 (by decide +kernel) rfl, ⟨by decide, by decide⟩, by decide +kernel, by decide⟩, ax_in 751 (by decide +kernel) rfl, ax_in 752 (by decide +kernel) rfl⟩
def md_X8_isFalse : ax_Md := (yX8_isFalse, cX8_isFalse, 3, (some .int))
theorem vm_X8_isFalse : ax_vm md_X8_isFalse 2 := ⟨⟨ax_in 760 (by decide +kernel) rfl, ax_in 65 (by decide +kernel) rfl, ⟨by decide, by decide⟩, by decide +kernel, by decide⟩, ax_in 758 (by decide +kernel) rfl, ax_in 759 (by decide +kernel) rfl⟩
def md_X8_hats : ax_Md := (yX8_hats, cX8_hats, 3, (some .int))
theorem vm_X8_hats : ax_vm md_X8_hats 1 := ⟨⟨ax_in 765 (by decide +kernel) rfl, ax_in 65 (by decide +kernel) rfl, ⟨by decide, by decide⟩, by decide +kernel, by decide⟩, ax_in 763 (by decide +kernel) rfl, ax_in 764 (by decide +kernel) rfl⟩
def md_X7_fewestFalse : ax_Md := (yX7_fewestFalse, cX7_fewestFalse, 1, (some .int))
theorem vm_X7_fewestFalse : ax_vm md_X7_fewestFalse 0 := ⟨⟨ax_in 769 (by decide +kernel) rfl, ax_in 71 (by decide +kernel) rfl, ⟨by decide, by decide⟩, by decide +kernel, by decide⟩, ax_in 767 (by decide +kernel) rfl, ax_in 768 (by decide +kernel) rfl⟩
def md_X7_searchFewest : ax_Md := (yX7_searchFewest, cX7_searchFewest, 6, (some .int))
theorem vm_X7_searchFewest : ax_vm md_X7_searchFewest 0 := ⟨⟨ax_in 773 (by decide +kernel) rfl, ax_in 71 (by decide +kernel) rfl, ⟨by decide, by decide⟩, by decide +kernel, by decide⟩, ax_in 772 (by decide +kernel) rfl, ax_in 23 (by decide +kernel) rfl⟩
def md_X7_isPeaceful : ax_Md := (yX7_isPeaceful, cX7_isPeaceful, 3, (some .boolean))
theorem vm_X7_isPeaceful : ax_vm md_X7_isPeaceful 1 := ⟨⟨ax_in 778 (by decide +kernel) rfl, ax_in 71 (by decide +kernel) rfl, ⟨by decide, by decide⟩, by decide +kernel, by decide⟩, ax_in 777 (by decide +kernel) rfl, ax_in 24 (by decide +kernel) rfl⟩
def md_X8_after : ax_Md := (yX8_after, cX8_after, 3, (some .int))
theorem vm_X8_after : ax_vm md_X8_after 2 := ⟨⟨ax_in 784 (by decide +kernel) rfl, ax_in 65 (by decide +kernel) rfl, ⟨by decide, by decide⟩, by decide +kernel, by decide⟩, ax_in 782 (by decide +kernel) rfl, ax_in 783 (by decide +kernel) rfl⟩
def md_X3_isFull : ax_Md := (yX3_isFull, cX3_isFull, 1, (some .boolean))
theorem vm_X3_isFull : ax_vm md_X3_isFull 0 := ⟨⟨ax_in 788 (by decide +kernel) rfl, ax_in 72 (by decide +kernel) rfl, ⟨by decide, by decide⟩, by decide +kernel, by decide⟩, ax_in 786 (by decide +kernel) rfl, ax_in 787 (by decide +kernel) rfl⟩
def md_X3_add : ax_Md := (yX3_add, cX3_add, 3, (some .int))
theorem vm_X3_add : ax_vm md_X3_add 2 := ⟨⟨ax_in 792 (by decide +kernel) rfl, ax_in 72 (by decide +kernel) rfl, ⟨by decide, by decide⟩, by decide +kernel, by decide⟩, ax_in 790 (by decide +kernel) rfl, ax_in 791 (by decide +kernel) rfl⟩
def md_X8_forget : ax_Md := (yX8_forget, cX8_forget, 2, (some .int))
theorem vm_X8_forget : ax_vm md_X8_forget 1 := ⟨⟨ax_in 796 (by decide +kernel) rfl, ax_in 65 (by decide +kernel) rfl, ⟨by decide, by decide⟩, by decide +kernel, by decide⟩, ax_in 794 (by decide +kernel) rfl, ax_in 795 (by decide +kernel) rfl⟩
def md_X7_clear : ax_Md := (yX7_clear, cX7_clear, 2, (some .int))
theorem vm_X7_clear : ax_vm md_X7_clear 0 := ⟨⟨ax_in 800 (by decide +kernel) rfl, ax_in 71 (by decide +kernel) rfl, ⟨by decide, by decide⟩, by decide +kernel, by decide⟩, ax_in 798 (by decide +kernel) rfl, ax_in 799 (by decide +kernel) rfl⟩
def md_X3_clear : ax_Md := (yX3_clear, cX3_clear, 2, (some .int))
theorem vm_X3_clear : ax_vm md_X3_clear 0 := ⟨⟨ax_in 804 (by decide +kernel) rfl, ax_in 72 (by decide +kernel) rfl, ⟨by decide, by decide⟩, by decide +kernel, by decide⟩, ax_in 802 (by decide +kernel) rfl, ax_in 803 (by decide +kernel) rfl⟩
def md_X8_spared : ax_Md := (yX8_spared, cX8_spared, 2, (some .int))
theorem vm_X8_spared : ax_vm md_X8_spared 1 := ⟨⟨ax_in 808 (by decide +kernel) rfl, ax_in 65 (by decide +kernel) rfl, ⟨by decide, by decide⟩, by decide +kernel, by decide⟩, ax_in 806 (by decide +kernel) rfl, ax_in 807 (by decide +kernel) rfl⟩
def md_X0_allBits : ax_Md := (yX0_allBits, cX0_allBits, 1, (some .int))
theorem vm_X0_allBits : ax_vm md_X0_allBits 0 := ⟨⟨ax_in 812 (by decide +kernel) rfl, ax_in 68 (by decide +kernel) rfl, ⟨by decide, by decide⟩, by decide +kernel, by decide⟩, ax_in 810 (by decide +kernel) rfl, ax_in 811 (by decide +kernel) rfl⟩
def md_X8_sparedBy : ax_Md := (yX8_sparedBy, cX8_sparedBy, 2, (some .int))
theorem vm_X8_sparedBy : ax_vm md_X8_sparedBy 1 := ⟨⟨ax_in 816 (by decide +kernel) rfl, ax_in 65 (by decide +kernel) rfl, ⟨by decide, by decide⟩, by decide +kernel, by decide⟩, ax_in 815 (by decide +kernel) rfl, ax_in 25 (by decide +kernel) rfl⟩
def md_X3_reached : ax_Md := (yX3_reached, cX3_reached, 6, (some .int))
theorem vm_X3_reached : ax_vm md_X3_reached 2 := ⟨⟨ax_in 820 (by decide +kernel) rfl, ax_in 72 (by decide +kernel) rfl, ⟨by decide, by decide⟩, by decide +kernel, by decide⟩, ax_in 818 (by decide +kernel) rfl, ax_in 819 (by decide +kernel) rfl⟩
def md_X8_best : ax_Md := (yX8_best, cX8_best, 5, (some .int))
theorem vm_X8_best : ax_vm md_X8_best 0 := ⟨⟨ax_in 826 (by decide +kernel) rfl, ax_in 65 (by decide +kernel) rfl, ⟨by decide, by decide⟩, by decide +kernel, by decide⟩, ax_in 824 (by decide +kernel) rfl, ax_in 825 (by decide +kernel) rfl⟩
def md_X8_regrets : ax_Md := (yX8_regrets, cX8_regrets, 7, (some .long))
theorem vm_X8_regrets : ax_vm md_X8_regrets 2 := ⟨⟨ax_in 830 (by decide +kernel) rfl, ax_in 65 (by decide +kernel) rfl, ⟨by decide, by decide⟩, by decide +kernel, by decide⟩, ax_in 828 (by decide +kernel) rfl, ax_in 829 (by decide +kernel) rfl⟩
def md_X8_sheet : ax_Md := (yX8_sheet, cX8_sheet, 4, (some .int))
theorem vm_X8_sheet : ax_vm md_X8_sheet 3 := ⟨⟨ax_in 838 (by decide +kernel) rfl, ax_in 65 (by decide +kernel) rfl, ⟨by decide, by decide⟩, by decide +kernel, by decide⟩, ax_in 836 (by decide +kernel) rfl, ax_in 837 (by decide +kernel) rfl⟩
def md_X6_isForm : ax_Md := (yX6_isForm, cX6_isForm, 1, (some .boolean))
theorem st_X6_isForm : ax_st md_X6_isForm 1 := ⟨⟨ax_in 841 (by decide +kernel) rfl, ax_in 73 (by decide +kernel) rfl, ⟨by decide, by decide⟩, by decide +kernel, by decide⟩, ax_in 840 (by decide +kernel) rfl⟩
def md_X6_renew : ax_Md := (yX6_renew, cX6_renew, 5, (some .int))
theorem vm_X6_renew : ax_vm md_X6_renew 3 := ⟨⟨ax_in 845 (by decide +kernel) rfl, ax_in 73 (by decide +kernel) rfl, ⟨by decide, by decide⟩, by decide +kernel, by decide⟩, ax_in 843 (by decide +kernel) rfl, ax_in 844 (by decide +kernel) rfl⟩
def md_X8_lose : ax_Md := (yX8_lose, cX8_lose, 2, (some .int))
theorem vm_X8_lose : ax_vm md_X8_lose 1 := ⟨⟨ax_in 849 (by decide +kernel) rfl, ax_in 65 (by decide +kernel) rfl, ⟨by decide, by decide⟩, by decide +kernel, by decide⟩, ax_in 847 (by decide +kernel) rfl, ax_in 848 (by decide +kernel) rfl⟩
def md_X6_drop : ax_Md := (yX6_drop, cX6_drop, 2, (some .int))
theorem vm_X6_drop : ax_vm md_X6_drop 1 := ⟨⟨ax_in 853 (by decide +kernel) rfl, ax_in 73 (by decide +kernel) rfl, ⟨by decide, by decide⟩, by decide +kernel, by decide⟩, ax_in 851 (by decide +kernel) rfl, ax_in 852 (by decide +kernel) rfl⟩
def md_X8_put : ax_Md := (yX8_put, cX8_put, 6, (some .int))
theorem vm_X8_put : ax_vm md_X8_put 4 := ⟨⟨ax_in 857 (by decide +kernel) rfl, ax_in 65 (by decide +kernel) rfl, ⟨by decide, by decide⟩, by decide +kernel, by decide⟩, ax_in 855 (by decide +kernel) rfl, ax_in 856 (by decide +kernel) rfl⟩
def md_X6_findingAt : ax_Md := (yX6_findingAt, cX6_findingAt, 4, (some .int))
theorem vm_X6_findingAt : ax_vm md_X6_findingAt 3 := ⟨⟨ax_in 861 (by decide +kernel) rfl, ax_in 73 (by decide +kernel) rfl, ⟨by decide, by decide⟩, by decide +kernel, by decide⟩, ax_in 859 (by decide +kernel) rfl, ax_in 860 (by decide +kernel) rfl⟩
def md_X6_store : ax_Md := (yX6_store, cX6_store, 4, none)
theorem vm_X6_store : ax_vm md_X6_store 3 := ⟨⟨ax_in 866 (by decide +kernel) rfl, ax_in 73 (by decide +kernel) rfl, ⟨by decide, by decide⟩, by decide +kernel, by decide⟩, ax_in 864 (by decide +kernel) rfl, ax_in 865 (by decide +kernel) rfl⟩
def md_X8_get : ax_Md := (yX8_get, cX8_get, 5, (some .int))
theorem vm_X8_get : ax_vm md_X8_get 3 := ⟨⟨ax_in 870 (by decide +kernel) rfl, ax_in 65 (by decide +kernel) rfl, ⟨by decide, by decide⟩, by decide +kernel, by decide⟩, ax_in 868 (by decide +kernel) rfl, ax_in 869 (by decide +kernel) rfl⟩
def md_X8_copy : ax_Md := (yX8_copy, cX8_copy, 6, (some .int))
theorem vm_X8_copy : ax_vm md_X8_copy 5 := ⟨⟨ax_in 875 (by decide +kernel) rfl, ax_in 65 (by decide +kernel) rfl, ⟨by decide, by decide⟩, by decide +kernel, by decide⟩, ax_in 873 (by decide +kernel) rfl, ax_in 874 (by decide +kernel) rfl⟩
def md_X6_hasSpan : ax_Md := (yX6_hasSpan, cX6_hasSpan, 4, (some .boolean))
theorem vm_X6_hasSpan : ax_vm md_X6_hasSpan 3 := ⟨⟨ax_in 879 (by decide +kernel) rfl, ax_in 73 (by decide +kernel) rfl, ⟨by decide, by decide⟩, by decide +kernel, by decide⟩, ax_in 877 (by decide +kernel) rfl, ax_in 878 (by decide +kernel) rfl⟩
def md_X8_write : ax_Md := (yX8_write, cX8_write, 4, (some .int))
theorem vm_X8_write : ax_vm md_X8_write 1 := ⟨⟨ax_in 884 (by decide +kernel) rfl, ax_in 65 (by decide +kernel) rfl, ⟨by decide, by decide⟩, by decide +kernel, by decide⟩, ax_in 882 (by decide +kernel) rfl, ax_in 883 (by decide +kernel) rfl⟩
def md_X8_count : ax_Md := (yX8_count, cX8_count, 2, (some .int))
theorem vm_X8_count : ax_vm md_X8_count 1 := ⟨⟨ax_in 888 (by decide +kernel) rfl, ax_in 65 (by decide +kernel) rfl, ⟨by decide, by decide⟩, by decide +kernel, by decide⟩, ax_in 886 (by decide +kernel) rfl, ax_in 887 (by decide +kernel) rfl⟩
def md_X1_rainyHours : ax_Md := (yX1_rainyHours, cX1_rainyHours, 3, (some .int))
theorem vm_X1_rainyHours : ax_vm md_X1_rainyHours 0 := ⟨⟨ax_in 892 (by decide +kernel) rfl, ax_in 70 (by decide +kernel) rfl, ⟨by decide, by decide⟩, by decide +kernel, by decide⟩, ax_in 890 (by decide +kernel) rfl, ax_in 891 (by decide +kernel) rfl⟩
def md_X8_digest : ax_Md := (yX8_digest, cX8_digest, 5, (some .long))
theorem vm_X8_digest : ax_vm md_X8_digest 0 := ⟨⟨ax_in 896 (by decide +kernel) rfl, ax_in 65 (by decide +kernel) rfl, ⟨by decide, by decide⟩, by decide +kernel, by decide⟩, ax_in 894 (by decide +kernel) rfl, ax_in 895 (by decide +kernel) rfl⟩
def md_X8_mix : ax_Md := (yX8_mix, cX8_mix, 4, (some .long))
theorem st_X8_mix : ax_st md_X8_mix 2 := ⟨⟨ax_in 901 (by decide +kernel) rfl, ax_in 65 (by decide +kernel) rfl, ⟨by decide, by decide⟩, by decide +kernel, by decide⟩, ax_in 900 (by decide +kernel) rfl⟩
def md_X8_mixDeed : ax_Md := (yX8_mixDeed, cX8_mixDeed, 7, (some .long))
theorem vm_X8_mixDeed : ax_vm md_X8_mixDeed 2 := ⟨⟨ax_in 907 (by decide +kernel) rfl, ax_in 65 (by decide +kernel) rfl, ⟨by decide, by decide⟩, by decide +kernel, by decide⟩, ax_in 906 (by decide +kernel) rfl, ax_in 26 (by decide +kernel) rfl⟩
def md_X9_type : ax_Md := (yX9_type, cX9_type, 3, (some .int))
theorem vm_X9_type : ax_vm md_X9_type 2 := ⟨⟨ax_in 1048 (by decide +kernel) rfl, ax_in 74 (by decide +kernel) rfl, ⟨by decide, by decide⟩, by decide +kernel, by decide⟩, ax_in 1046 (by decide +kernel) rfl, ax_in 1047 (by decide +kernel) rfl⟩
def md_X9_in : ax_Md := (yX9_in, cX9_in, 3, (some .boolean))
theorem st_X9_in : ax_st md_X9_in 3 := ⟨⟨ax_in 1051 (by decide +kernel) rfl, ax_in 74 (by decide +kernel) rfl, ⟨by decide, by decide⟩, by decide +kernel, by decide⟩, ax_in 1050 (by decide +kernel) rfl⟩
def md_X9_wipe : ax_Md := (yX9_wipe, cX9_wipe, 3, (some .int))
theorem vm_X9_wipe : ax_vm md_X9_wipe 1 := ⟨⟨ax_in 1055 (by decide +kernel) rfl, ax_in 74 (by decide +kernel) rfl, ⟨by decide, by decide⟩, by decide +kernel, by decide⟩, ax_in 1053 (by decide +kernel) rfl, ax_in 1054 (by decide +kernel) rfl⟩
def md_X9_fault : ax_Md := (yX9_fault, cX9_fault, 2, (some .int))
theorem vm_X9_fault : ax_vm md_X9_fault 1 := ⟨⟨ax_in 1059 (by decide +kernel) rfl, ax_in 74 (by decide +kernel) rfl, ⟨by decide, by decide⟩, by decide +kernel, by decide⟩, ax_in 1057 (by decide +kernel) rfl, ax_in 1058 (by decide +kernel) rfl⟩
def md_X9_faultOf : ax_Md := (yX9_faultOf, cX9_faultOf, 3, (some .int))
theorem vm_X9_faultOf : ax_vm md_X9_faultOf 1 := ⟨⟨ax_in 1063 (by decide +kernel) rfl, ax_in 74 (by decide +kernel) rfl, ⟨by decide, by decide⟩, by decide +kernel, by decide⟩, ax_in 1062 (by decide +kernel) rfl, ax_in 27 (by decide +kernel) rfl⟩
def md_X9_readsDeeds : ax_Md := (yX9_readsDeeds, cX9_readsDeeds, 5, (some .int))
theorem vm_X9_readsDeeds : ax_vm md_X9_readsDeeds 0 := ⟨⟨ax_in 1067 (by decide +kernel) rfl, ax_in 74 (by decide +kernel) rfl, ⟨by decide, by decide⟩, by decide +kernel, by decide⟩, ax_in 1066 (by decide +kernel) rfl, ax_in 28 (by decide +kernel) rfl⟩
def md_X9_byteAt : ax_Md := (yX9_byteAt, cX9_byteAt, 3, (some .int))
theorem vm_X9_byteAt : ax_vm md_X9_byteAt 2 := ⟨⟨ax_in 1071 (by decide +kernel) rfl, ax_in 74 (by decide +kernel) rfl, ⟨by decide, by decide⟩, by decide +kernel, by decide⟩, ax_in 1070 (by decide +kernel) rfl, ax_in 29 (by decide +kernel) rfl⟩
def md_X9_kindBy : ax_Md := (yX9_kindBy, cX9_kindBy, 1, (some .int))
theorem st_X9_kindBy : ax_st md_X9_kindBy 1 := ⟨⟨ax_in 1074 (by decide +kernel) rfl, ax_in 74 (by decide +kernel) rfl, ⟨by decide, by decide⟩, by decide +kernel, by decide⟩, ax_in 1073 (by decide +kernel) rfl⟩
def md_X9_isIn : ax_Md := (yX9_isIn, cX9_isIn, 2, (some .boolean))
theorem st_X9_isIn : ax_st md_X9_isIn 2 := ⟨⟨ax_in 1077 (by decide +kernel) rfl, ax_in 74 (by decide +kernel) rfl, ⟨by decide, by decide⟩, by decide +kernel, by decide⟩, ax_in 1076 (by decide +kernel) rfl⟩
def md_X9_readsRules : ax_Md := (yX9_readsRules, cX9_readsRules, 3, (some .int))
theorem vm_X9_readsRules : ax_vm md_X9_readsRules 0 := ⟨⟨ax_in 1081 (by decide +kernel) rfl, ax_in 74 (by decide +kernel) rfl, ⟨by decide, by decide⟩, by decide +kernel, by decide⟩, ax_in 1080 (by decide +kernel) rfl, ax_in 30 (by decide +kernel) rfl⟩
def md_X9_noRules : ax_Md := (yX9_noRules, cX9_noRules, 2, none)
theorem vm_X9_noRules : ax_vm md_X9_noRules 0 := ⟨⟨ax_in 1085 (by decide +kernel) rfl, ax_in 74 (by decide +kernel) rfl, ⟨by decide, by decide⟩, by decide +kernel, by decide⟩, ax_in 1084 (by decide +kernel) rfl, ax_in 31 (by decide +kernel) rfl⟩
def md_X9_deed : ax_Md := (yX9_deed, cX9_deed, 3, (some .int))
theorem vm_X9_deed : ax_vm md_X9_deed 2 := ⟨⟨ax_in 1089 (by decide +kernel) rfl, ax_in 74 (by decide +kernel) rfl, ⟨by decide, by decide⟩, by decide +kernel, by decide⟩, ax_in 1087 (by decide +kernel) rfl, ax_in 1088 (by decide +kernel) rfl⟩
def md_X9_isDeed : ax_Md := (yX9_isDeed, cX9_isDeed, 2, (some .boolean))
theorem vm_X9_isDeed : ax_vm md_X9_isDeed 1 := ⟨⟨ax_in 1093 (by decide +kernel) rfl, ax_in 74 (by decide +kernel) rfl, ⟨by decide, by decide⟩, by decide +kernel, by decide⟩, ax_in 1092 (by decide +kernel) rfl, ax_in 32 (by decide +kernel) rfl⟩
def md_X9_reads : ax_Md := (yX9_reads, cX9_reads, 2, none)
theorem vm_X9_reads : ax_vm md_X9_reads 0 := ⟨⟨ax_in 1097 (by decide +kernel) rfl, ax_in 74 (by decide +kernel) rfl, ⟨by decide, by decide⟩, by decide +kernel, by decide⟩, ax_in 1096 (by decide +kernel) rfl, ax_in 33 (by decide +kernel) rfl⟩
def md_X9_deedOf : ax_Md := (yX9_deedOf, cX9_deedOf, 3, (some .int))
theorem vm_X9_deedOf : ax_vm md_X9_deedOf 2 := ⟨⟨ax_in 1101 (by decide +kernel) rfl, ax_in 74 (by decide +kernel) rfl, ⟨by decide, by decide⟩, by decide +kernel, by decide⟩, ax_in 1100 (by decide +kernel) rfl, ax_in 34 (by decide +kernel) rfl⟩
def md_X9_rule : ax_Md := (yX9_rule, cX9_rule, 3, (some .int))
theorem vm_X9_rule : ax_vm md_X9_rule 2 := ⟨⟨ax_in 1105 (by decide +kernel) rfl, ax_in 74 (by decide +kernel) rfl, ⟨by decide, by decide⟩, by decide +kernel, by decide⟩, ax_in 1103 (by decide +kernel) rfl, ax_in 1104 (by decide +kernel) rfl⟩
def md_X9_ruleOf : ax_Md := (yX9_ruleOf, cX9_ruleOf, 3, (some .int))
theorem vm_X9_ruleOf : ax_vm md_X9_ruleOf 2 := ⟨⟨ax_in 1109 (by decide +kernel) rfl, ax_in 74 (by decide +kernel) rfl, ⟨by decide, by decide⟩, by decide +kernel, by decide⟩, ax_in 1108 (by decide +kernel) rfl, ax_in 35 (by decide +kernel) rfl⟩
def md_X9_person : ax_Md := (yX9_person, cX9_person, 5, (some .int))
theorem vm_X9_person : ax_vm md_X9_person 3 := ⟨⟨ax_in 1113 (by decide +kernel) rfl, ax_in 74 (by decide +kernel) rfl, ⟨by decide, by decide⟩, by decide +kernel, by decide⟩, ax_in 1111 (by decide +kernel) rfl, ax_in 1112 (by decide +kernel) rfl⟩
def md_X9_isPerson : ax_Md := (yX9_isPerson, cX9_isPerson, 1, (some .boolean))
theorem st_X9_isPerson : ax_st md_X9_isPerson 1 := ⟨⟨ax_in 1116 (by decide +kernel) rfl, ax_in 74 (by decide +kernel) rfl, ⟨by decide, by decide⟩, by decide +kernel, by decide⟩, ax_in 1115 (by decide +kernel) rfl⟩
def md_X9_weather : ax_Md := (yX9_weather, cX9_weather, 4, (some .int))
theorem vm_X9_weather : ax_vm md_X9_weather 2 := ⟨⟨ax_in 1120 (by decide +kernel) rfl, ax_in 74 (by decide +kernel) rfl, ⟨by decide, by decide⟩, by decide +kernel, by decide⟩, ax_in 1118 (by decide +kernel) rfl, ax_in 1119 (by decide +kernel) rfl⟩
def md_X9_isHour : ax_Md := (yX9_isHour, cX9_isHour, 1, (some .boolean))
theorem st_X9_isHour : ax_st md_X9_isHour 1 := ⟨⟨ax_in 1123 (by decide +kernel) rfl, ax_in 74 (by decide +kernel) rfl, ⟨by decide, by decide⟩, by decide +kernel, by decide⟩, ax_in 1122 (by decide +kernel) rfl⟩
def md_X9_set : ax_Md := (yX9_set, cX9_set, 4, (some .int))
theorem vm_X9_set : ax_vm md_X9_set 2 := ⟨⟨ax_in 1127 (by decide +kernel) rfl, ax_in 74 (by decide +kernel) rfl, ⟨by decide, by decide⟩, by decide +kernel, by decide⟩, ax_in 1125 (by decide +kernel) rfl, ax_in 1126 (by decide +kernel) rfl⟩
def md_X9_read : ax_Md := (yX9_read, cX9_read, 3, (some .int))
theorem vm_X9_read : ax_vm md_X9_read 1 := ⟨⟨ax_in 1131 (by decide +kernel) rfl, ax_in 74 (by decide +kernel) rfl, ⟨by decide, by decide⟩, by decide +kernel, by decide⟩, ax_in 1129 (by decide +kernel) rfl, ax_in 1130 (by decide +kernel) rfl⟩
def md_X9_isSheet : ax_Md := (yX9_isSheet, cX9_isSheet, 1, (some .boolean))
theorem st_X9_isSheet : ax_st md_X9_isSheet 1 := ⟨⟨ax_in 1134 (by decide +kernel) rfl, ax_in 74 (by decide +kernel) rfl, ⟨by decide, by decide⟩, by decide +kernel, by decide⟩, ax_in 1133 (by decide +kernel) rfl⟩
def md_X9_meets : ax_Md := (yX9_meets, cX9_meets, 2, (some .int))
theorem vm_X9_meets : ax_vm md_X9_meets 1 := ⟨⟨ax_in 1138 (by decide +kernel) rfl, ax_in 74 (by decide +kernel) rfl, ⟨by decide, by decide⟩, by decide +kernel, by decide⟩, ax_in 1137 (by decide +kernel) rfl, ax_in 36 (by decide +kernel) rfl⟩
def md_X9_can : ax_Md := (yX9_can, cX9_can, 3, (some .int))
theorem vm_X9_can : ax_vm md_X9_can 2 := ⟨⟨ax_in 1142 (by decide +kernel) rfl, ax_in 74 (by decide +kernel) rfl, ⟨by decide, by decide⟩, by decide +kernel, by decide⟩, ax_in 1140 (by decide +kernel) rfl, ax_in 1141 (by decide +kernel) rfl⟩
def md_X9_canOf : ax_Md := (yX9_canOf, cX9_canOf, 3, (some .int))
theorem vm_X9_canOf : ax_vm md_X9_canOf 2 := ⟨⟨ax_in 1146 (by decide +kernel) rfl, ax_in 74 (by decide +kernel) rfl, ⟨by decide, by decide⟩, by decide +kernel, by decide⟩, ax_in 1145 (by decide +kernel) rfl, ax_in 37 (by decide +kernel) rfl⟩
def md_X9_comesOf : ax_Md := (yX9_comesOf, cX9_comesOf, 8, (some .int))
theorem vm_X9_comesOf : ax_vm md_X9_comesOf 2 := ⟨⟨ax_in 1150 (by decide +kernel) rfl, ax_in 74 (by decide +kernel) rfl, ⟨by decide, by decide⟩, by decide +kernel, by decide⟩, ax_in 1149 (by decide +kernel) rfl, ax_in 38 (by decide +kernel) rfl⟩
def md_X9_isTurned : ax_Md := (yX9_isTurned, cX9_isTurned, 3, (some .boolean))
theorem vm_X9_isTurned : ax_vm md_X9_isTurned 2 := ⟨⟨ax_in 1154 (by decide +kernel) rfl, ax_in 74 (by decide +kernel) rfl, ⟨by decide, by decide⟩, by decide +kernel, by decide⟩, ax_in 1153 (by decide +kernel) rfl, ax_in 39 (by decide +kernel) rfl⟩
def md_X9_needs : ax_Md := (yX9_needs, cX9_needs, 3, (some .int))
theorem vm_X9_needs : ax_vm md_X9_needs 1 := ⟨⟨ax_in 1158 (by decide +kernel) rfl, ax_in 74 (by decide +kernel) rfl, ⟨by decide, by decide⟩, by decide +kernel, by decide⟩, ax_in 1157 (by decide +kernel) rfl, ax_in 40 (by decide +kernel) rfl⟩
def md_X9_ones : ax_Md := (yX9_ones, cX9_ones, 3, (some .int))
theorem st_X9_ones : ax_st md_X9_ones 1 := ⟨⟨ax_in 1161 (by decide +kernel) rfl, ax_in 74 (by decide +kernel) rfl, ⟨by decide, by decide⟩, by decide +kernel, by decide⟩, ax_in 1160 (by decide +kernel) rfl⟩
def md_X9_hours : ax_Md := (yX9_hours, cX9_hours, 2, (some .int))
theorem vm_X9_hours : ax_vm md_X9_hours 1 := ⟨⟨ax_in 1165 (by decide +kernel) rfl, ax_in 74 (by decide +kernel) rfl, ⟨by decide, by decide⟩, by decide +kernel, by decide⟩, ax_in 1163 (by decide +kernel) rfl, ax_in 1164 (by decide +kernel) rfl⟩
def md_X9_hoursOf : ax_Md := (yX9_hoursOf, cX9_hoursOf, 4, (some .int))
theorem vm_X9_hoursOf : ax_vm md_X9_hoursOf 1 := ⟨⟨ax_in 1169 (by decide +kernel) rfl, ax_in 74 (by decide +kernel) rfl, ⟨by decide, by decide⟩, by decide +kernel, by decide⟩, ax_in 1168 (by decide +kernel) rfl, ax_in 41 (by decide +kernel) rfl⟩
def md_X9_comes : ax_Md := (yX9_comes, cX9_comes, 3, (some .int))
theorem vm_X9_comes : ax_vm md_X9_comes 2 := ⟨⟨ax_in 1173 (by decide +kernel) rfl, ax_in 74 (by decide +kernel) rfl, ⟨by decide, by decide⟩, by decide +kernel, by decide⟩, ax_in 1171 (by decide +kernel) rfl, ax_in 1172 (by decide +kernel) rfl⟩
def md_X9_costs : ax_Md := (yX9_costs, cX9_costs, 3, (some .int))
theorem vm_X9_costs : ax_vm md_X9_costs 2 := ⟨⟨ax_in 1177 (by decide +kernel) rfl, ax_in 74 (by decide +kernel) rfl, ⟨by decide, by decide⟩, by decide +kernel, by decide⟩, ax_in 1175 (by decide +kernel) rfl, ax_in 1176 (by decide +kernel) rfl⟩
def md_X9_costsOf : ax_Md := (yX9_costsOf, cX9_costsOf, 4, (some .int))
theorem vm_X9_costsOf : ax_vm md_X9_costsOf 2 := ⟨⟨ax_in 1181 (by decide +kernel) rfl, ax_in 74 (by decide +kernel) rfl, ⟨by decide, by decide⟩, by decide +kernel, by decide⟩, ax_in 1180 (by decide +kernel) rfl, ax_in 42 (by decide +kernel) rfl⟩
def md_X9_pricesOf : ax_Md := (yX9_pricesOf, cX9_pricesOf, 4, (some .int))
theorem vm_X9_pricesOf : ax_vm md_X9_pricesOf 1 := ⟨⟨ax_in 1185 (by decide +kernel) rfl, ax_in 74 (by decide +kernel) rfl, ⟨by decide, by decide⟩, by decide +kernel, by decide⟩, ax_in 1184 (by decide +kernel) rfl, ax_in 43 (by decide +kernel) rfl⟩
def md_X9_most : ax_Md := (yX9_most, cX9_most, 2, (some .int))
theorem vm_X9_most : ax_vm md_X9_most 1 := ⟨⟨ax_in 1189 (by decide +kernel) rfl, ax_in 74 (by decide +kernel) rfl, ⟨by decide, by decide⟩, by decide +kernel, by decide⟩, ax_in 1187 (by decide +kernel) rfl, ax_in 1188 (by decide +kernel) rfl⟩
def md_X9_laysMost : ax_Md := (yX9_laysMost, cX9_laysMost, 3, none)
theorem vm_X9_laysMost : ax_vm md_X9_laysMost 0 := ⟨⟨ax_in 1193 (by decide +kernel) rfl, ax_in 74 (by decide +kernel) rfl, ⟨by decide, by decide⟩, by decide +kernel, by decide⟩, ax_in 1192 (by decide +kernel) rfl, ax_in 44 (by decide +kernel) rfl⟩
def md_X9_costTogether : ax_Md := (yX9_costTogether, cX9_costTogether, 11, (some .int))
theorem vm_X9_costTogether : ax_vm md_X9_costTogether 2 := ⟨⟨ax_in 1197 (by decide +kernel) rfl, ax_in 74 (by decide +kernel) rfl, ⟨by decide, by decide⟩, by decide +kernel, by decide⟩, ax_in 1196 (by decide +kernel) rfl, ax_in 45 (by decide +kernel) rfl⟩
def md_X9_bestOf : ax_Md := (yX9_bestOf, cX9_bestOf, 10, none)
theorem vm_X9_bestOf : ax_vm md_X9_bestOf 1 := ⟨⟨ax_in 1202 (by decide +kernel) rfl, ax_in 74 (by decide +kernel) rfl, ⟨by decide, by decide⟩, by decide +kernel, by decide⟩, ax_in 1201 (by decide +kernel) rfl, ax_in 46 (by decide +kernel) rfl⟩
def md_X9_worthBy : ax_Md := (yX9_worthBy, cX9_worthBy, 4, (some .int))
theorem vm_X9_worthBy : ax_vm md_X9_worthBy 1 := ⟨⟨ax_in 1206 (by decide +kernel) rfl, ax_in 74 (by decide +kernel) rfl, ⟨by decide, by decide⟩, by decide +kernel, by decide⟩, ax_in 1205 (by decide +kernel) rfl, ax_in 47 (by decide +kernel) rfl⟩
def md_X9_when : ax_Md := (yX9_when, cX9_when, 2, (some .int))
theorem vm_X9_when : ax_vm md_X9_when 1 := ⟨⟨ax_in 1210 (by decide +kernel) rfl, ax_in 74 (by decide +kernel) rfl, ⟨by decide, by decide⟩, by decide +kernel, by decide⟩, ax_in 1208 (by decide +kernel) rfl, ax_in 1209 (by decide +kernel) rfl⟩
def md_X9_plan : ax_Md := (yX9_plan, cX9_plan, 3, (some .int))
theorem vm_X9_plan : ax_vm md_X9_plan 2 := ⟨⟨ax_in 1214 (by decide +kernel) rfl, ax_in 74 (by decide +kernel) rfl, ⟨by decide, by decide⟩, by decide +kernel, by decide⟩, ax_in 1212 (by decide +kernel) rfl, ax_in 1213 (by decide +kernel) rfl⟩
def md_X9_planOf : ax_Md := (yX9_planOf, cX9_planOf, 6, (some .int))
theorem vm_X9_planOf : ax_vm md_X9_planOf 2 := ⟨⟨ax_in 1218 (by decide +kernel) rfl, ax_in 74 (by decide +kernel) rfl, ⟨by decide, by decide⟩, by decide +kernel, by decide⟩, ax_in 1217 (by decide +kernel) rfl, ax_in 48 (by decide +kernel) rfl⟩
def md_X9_planCostOf : ax_Md := (yX9_planCostOf, cX9_planCostOf, 6, (some .int))
theorem vm_X9_planCostOf : ax_vm md_X9_planCostOf 1 := ⟨⟨ax_in 1222 (by decide +kernel) rfl, ax_in 74 (by decide +kernel) rfl, ⟨by decide, by decide⟩, by decide +kernel, by decide⟩, ax_in 1221 (by decide +kernel) rfl, ax_in 49 (by decide +kernel) rfl⟩
def md_X9_asked : ax_Md := (yX9_asked, cX9_asked, 3, (some .int))
theorem vm_X9_asked : ax_vm md_X9_asked 2 := ⟨⟨ax_in 1226 (by decide +kernel) rfl, ax_in 74 (by decide +kernel) rfl, ⟨by decide, by decide⟩, by decide +kernel, by decide⟩, ax_in 1224 (by decide +kernel) rfl, ax_in 1225 (by decide +kernel) rfl⟩
def md_X9_askedOf : ax_Md := (yX9_askedOf, cX9_askedOf, 6, (some .int))
theorem vm_X9_askedOf : ax_vm md_X9_askedOf 2 := ⟨⟨ax_in 1230 (by decide +kernel) rfl, ax_in 74 (by decide +kernel) rfl, ⟨by decide, by decide⟩, by decide +kernel, by decide⟩, ax_in 1229 (by decide +kernel) rfl, ax_in 50 (by decide +kernel) rfl⟩
def md_X9_crowd : ax_Md := (yX9_crowd, cX9_crowd, 2, (some .int))
theorem vm_X9_crowd : ax_vm md_X9_crowd 1 := ⟨⟨ax_in 1234 (by decide +kernel) rfl, ax_in 74 (by decide +kernel) rfl, ⟨by decide, by decide⟩, by decide +kernel, by decide⟩, ax_in 1232 (by decide +kernel) rfl, ax_in 1233 (by decide +kernel) rfl⟩
def md_X9_crowdOf : ax_Md := (yX9_crowdOf, cX9_crowdOf, 6, (some .int))
theorem vm_X9_crowdOf : ax_vm md_X9_crowdOf 1 := ⟨⟨ax_in 1238 (by decide +kernel) rfl, ax_in 74 (by decide +kernel) rfl, ⟨by decide, by decide⟩, by decide +kernel, by decide⟩, ax_in 1237 (by decide +kernel) rfl, ax_in 51 (by decide +kernel) rfl⟩
def md_X9_likeness : ax_Md := (yX9_likeness, cX9_likeness, 3, (some .int))
theorem vm_X9_likeness : ax_vm md_X9_likeness 2 := ⟨⟨ax_in 1242 (by decide +kernel) rfl, ax_in 74 (by decide +kernel) rfl, ⟨by decide, by decide⟩, by decide +kernel, by decide⟩, ax_in 1240 (by decide +kernel) rfl, ax_in 1241 (by decide +kernel) rfl⟩
def md_X9_likenessOf : ax_Md := (yX9_likenessOf, cX9_likenessOf, 5, (some .int))
theorem vm_X9_likenessOf : ax_vm md_X9_likenessOf 2 := ⟨⟨ax_in 1246 (by decide +kernel) rfl, ax_in 74 (by decide +kernel) rfl, ⟨by decide, by decide⟩, by decide +kernel, by decide⟩, ax_in 1245 (by decide +kernel) rfl, ax_in 52 (by decide +kernel) rfl⟩
def md_X9_odds : ax_Md := (yX9_odds, cX9_odds, 4, (some .long))
theorem vm_X9_odds : ax_vm md_X9_odds 3 := ⟨⟨ax_in 1250 (by decide +kernel) rfl, ax_in 74 (by decide +kernel) rfl, ⟨by decide, by decide⟩, by decide +kernel, by decide⟩, ax_in 1248 (by decide +kernel) rfl, ax_in 1249 (by decide +kernel) rfl⟩
def md_X9_oddsOf : ax_Md := (yX9_oddsOf, cX9_oddsOf, 11, (some .long))
theorem vm_X9_oddsOf : ax_vm md_X9_oddsOf 3 := ⟨⟨ax_in 1254 (by decide +kernel) rfl, ax_in 74 (by decide +kernel) rfl, ⟨by decide, by decide⟩, by decide +kernel, by decide⟩, ax_in 1253 (by decide +kernel) rfl, ax_in 53 (by decide +kernel) rfl⟩
def md_X9_no : ax_Md := (yX9_no, cX9_no, 1, (some .long))
theorem st_X9_no : ax_st md_X9_no 1 := ⟨⟨ax_in 1257 (by decide +kernel) rfl, ax_in 74 (by decide +kernel) rfl, ⟨by decide, by decide⟩, by decide +kernel, by decide⟩, ax_in 1256 (by decide +kernel) rfl⟩
def md_X9_lowest : ax_Md := (yX9_lowest, cX9_lowest, 11, (some .long))
theorem st_X9_lowest : ax_st md_X9_lowest 3 := ⟨⟨ax_in 1262 (by decide +kernel) rfl, ax_in 74 (by decide +kernel) rfl, ⟨by decide, by decide⟩, by decide +kernel, by decide⟩, ax_in 1261 (by decide +kernel) rfl⟩
def md_X9_seen : ax_Md := (yX9_seen, cX9_seen, 4, (some .int))
theorem vm_X9_seen : ax_vm md_X9_seen 3 := ⟨⟨ax_in 1266 (by decide +kernel) rfl, ax_in 74 (by decide +kernel) rfl, ⟨by decide, by decide⟩, by decide +kernel, by decide⟩, ax_in 1264 (by decide +kernel) rfl, ax_in 1265 (by decide +kernel) rfl⟩
def md_X9_isFalse : ax_Md := (yX9_isFalse, cX9_isFalse, 3, (some .int))
theorem vm_X9_isFalse : ax_vm md_X9_isFalse 2 := ⟨⟨ax_in 1270 (by decide +kernel) rfl, ax_in 74 (by decide +kernel) rfl, ⟨by decide, by decide⟩, by decide +kernel, by decide⟩, ax_in 1268 (by decide +kernel) rfl, ax_in 1269 (by decide +kernel) rfl⟩
def md_X9_isSight : ax_Md := (yX9_isSight, cX9_isSight, 2, (some .boolean))
theorem vm_X9_isSight : ax_vm md_X9_isSight 1 := ⟨⟨ax_in 1274 (by decide +kernel) rfl, ax_in 74 (by decide +kernel) rfl, ⟨by decide, by decide⟩, by decide +kernel, by decide⟩, ax_in 1273 (by decide +kernel) rfl, ax_in 54 (by decide +kernel) rfl⟩
def md_X9_areFalse : ax_Md := (yX9_areFalse, cX9_areFalse, 6, (some .boolean))
theorem vm_X9_areFalse : ax_vm md_X9_areFalse 2 := ⟨⟨ax_in 1278 (by decide +kernel) rfl, ax_in 74 (by decide +kernel) rfl, ⟨by decide, by decide⟩, by decide +kernel, by decide⟩, ax_in 1277 (by decide +kernel) rfl, ax_in 55 (by decide +kernel) rfl⟩
def md_X9_hats : ax_Md := (yX9_hats, cX9_hats, 2, (some .int))
theorem vm_X9_hats : ax_vm md_X9_hats 1 := ⟨⟨ax_in 1282 (by decide +kernel) rfl, ax_in 74 (by decide +kernel) rfl, ⟨by decide, by decide⟩, by decide +kernel, by decide⟩, ax_in 1280 (by decide +kernel) rfl, ax_in 1281 (by decide +kernel) rfl⟩
def md_X9_hatsOf : ax_Md := (yX9_hatsOf, cX9_hatsOf, 7, (some .int))
theorem vm_X9_hatsOf : ax_vm md_X9_hatsOf 1 := ⟨⟨ax_in 1286 (by decide +kernel) rfl, ax_in 74 (by decide +kernel) rfl, ⟨by decide, by decide⟩, by decide +kernel, by decide⟩, ax_in 1285 (by decide +kernel) rfl, ax_in 56 (by decide +kernel) rfl⟩
def md_X9_after : ax_Md := (yX9_after, cX9_after, 3, (some .int))
theorem vm_X9_after : ax_vm md_X9_after 2 := ⟨⟨ax_in 1290 (by decide +kernel) rfl, ax_in 74 (by decide +kernel) rfl, ⟨by decide, by decide⟩, by decide +kernel, by decide⟩, ax_in 1288 (by decide +kernel) rfl, ax_in 1289 (by decide +kernel) rfl⟩
def md_X9_forget : ax_Md := (yX9_forget, cX9_forget, 3, (some .int))
theorem vm_X9_forget : ax_vm md_X9_forget 1 := ⟨⟨ax_in 1294 (by decide +kernel) rfl, ax_in 74 (by decide +kernel) rfl, ⟨by decide, by decide⟩, by decide +kernel, by decide⟩, ax_in 1292 (by decide +kernel) rfl, ax_in 1293 (by decide +kernel) rfl⟩
def md_X9_spared : ax_Md := (yX9_spared, cX9_spared, 2, (some .int))
theorem vm_X9_spared : ax_vm md_X9_spared 1 := ⟨⟨ax_in 1298 (by decide +kernel) rfl, ax_in 74 (by decide +kernel) rfl, ⟨by decide, by decide⟩, by decide +kernel, by decide⟩, ax_in 1296 (by decide +kernel) rfl, ax_in 1297 (by decide +kernel) rfl⟩
def md_X9_allDeeds : ax_Md := (yX9_allDeeds, cX9_allDeeds, 1, (some .int))
theorem vm_X9_allDeeds : ax_vm md_X9_allDeeds 0 := ⟨⟨ax_in 1302 (by decide +kernel) rfl, ax_in 74 (by decide +kernel) rfl, ⟨by decide, by decide⟩, by decide +kernel, by decide⟩, ax_in 1301 (by decide +kernel) rfl, ax_in 57 (by decide +kernel) rfl⟩
def md_X9_sparedOf : ax_Md := (yX9_sparedOf, cX9_sparedOf, 5, (some .int))
theorem vm_X9_sparedOf : ax_vm md_X9_sparedOf 1 := ⟨⟨ax_in 1306 (by decide +kernel) rfl, ax_in 74 (by decide +kernel) rfl, ⟨by decide, by decide⟩, by decide +kernel, by decide⟩, ax_in 1305 (by decide +kernel) rfl, ax_in 58 (by decide +kernel) rfl⟩
def md_X9_best : ax_Md := (yX9_best, cX9_best, 1, (some .int))
theorem vm_X9_best : ax_vm md_X9_best 0 := ⟨⟨ax_in 1310 (by decide +kernel) rfl, ax_in 74 (by decide +kernel) rfl, ⟨by decide, by decide⟩, by decide +kernel, by decide⟩, ax_in 1308 (by decide +kernel) rfl, ax_in 1309 (by decide +kernel) rfl⟩
def md_X9_bestNow : ax_Md := (yX9_bestNow, cX9_bestNow, 5, (some .int))
theorem vm_X9_bestNow : ax_vm md_X9_bestNow 0 := ⟨⟨ax_in 1314 (by decide +kernel) rfl, ax_in 74 (by decide +kernel) rfl, ⟨by decide, by decide⟩, by decide +kernel, by decide⟩, ax_in 1313 (by decide +kernel) rfl, ax_in 59 (by decide +kernel) rfl⟩
def md_X9_regrets : ax_Md := (yX9_regrets, cX9_regrets, 3, (some .long))
theorem vm_X9_regrets : ax_vm md_X9_regrets 2 := ⟨⟨ax_in 1318 (by decide +kernel) rfl, ax_in 74 (by decide +kernel) rfl, ⟨by decide, by decide⟩, by decide +kernel, by decide⟩, ax_in 1316 (by decide +kernel) rfl, ax_in 1317 (by decide +kernel) rfl⟩
def md_X9_regretsOf : ax_Md := (yX9_regretsOf, cX9_regretsOf, 5, (some .long))
theorem vm_X9_regretsOf : ax_vm md_X9_regretsOf 2 := ⟨⟨ax_in 1322 (by decide +kernel) rfl, ax_in 74 (by decide +kernel) rfl, ⟨by decide, by decide⟩, by decide +kernel, by decide⟩, ax_in 1321 (by decide +kernel) rfl, ax_in 60 (by decide +kernel) rfl⟩
def md_X9_choose : ax_Md := (yX9_choose, cX9_choose, 5, (some .long))
theorem st_X9_choose : ax_st md_X9_choose 2 := ⟨⟨ax_in 1325 (by decide +kernel) rfl, ax_in 74 (by decide +kernel) rfl, ⟨by decide, by decide⟩, by decide +kernel, by decide⟩, ax_in 1324 (by decide +kernel) rfl⟩
def md_X9_sheet : ax_Md := (yX9_sheet, cX9_sheet, 5, (some .int))
theorem vm_X9_sheet : ax_vm md_X9_sheet 3 := ⟨⟨ax_in 1329 (by decide +kernel) rfl, ax_in 74 (by decide +kernel) rfl, ⟨by decide, by decide⟩, by decide +kernel, by decide⟩, ax_in 1327 (by decide +kernel) rfl, ax_in 1328 (by decide +kernel) rfl⟩
def md_X9_lose : ax_Md := (yX9_lose, cX9_lose, 2, (some .int))
theorem vm_X9_lose : ax_vm md_X9_lose 1 := ⟨⟨ax_in 1333 (by decide +kernel) rfl, ax_in 74 (by decide +kernel) rfl, ⟨by decide, by decide⟩, by decide +kernel, by decide⟩, ax_in 1331 (by decide +kernel) rfl, ax_in 1332 (by decide +kernel) rfl⟩
def md_X9_put : ax_Md := (yX9_put, cX9_put, 6, (some .int))
theorem vm_X9_put : ax_vm md_X9_put 4 := ⟨⟨ax_in 1337 (by decide +kernel) rfl, ax_in 74 (by decide +kernel) rfl, ⟨by decide, by decide⟩, by decide +kernel, by decide⟩, ax_in 1335 (by decide +kernel) rfl, ax_in 1336 (by decide +kernel) rfl⟩
def md_X9_lacks : ax_Md := (yX9_lacks, cX9_lacks, 4, (some .int))
theorem vm_X9_lacks : ax_vm md_X9_lacks 3 := ⟨⟨ax_in 1341 (by decide +kernel) rfl, ax_in 74 (by decide +kernel) rfl, ⟨by decide, by decide⟩, by decide +kernel, by decide⟩, ax_in 1340 (by decide +kernel) rfl, ax_in 61 (by decide +kernel) rfl⟩
def md_X9_keep : ax_Md := (yX9_keep, cX9_keep, 4, none)
theorem vm_X9_keep : ax_vm md_X9_keep 3 := ⟨⟨ax_in 1345 (by decide +kernel) rfl, ax_in 74 (by decide +kernel) rfl, ⟨by decide, by decide⟩, by decide +kernel, by decide⟩, ax_in 1344 (by decide +kernel) rfl, ax_in 62 (by decide +kernel) rfl⟩
def md_X9_get : ax_Md := (yX9_get, cX9_get, 5, (some .int))
theorem vm_X9_get : ax_vm md_X9_get 3 := ⟨⟨ax_in 1349 (by decide +kernel) rfl, ax_in 74 (by decide +kernel) rfl, ⟨by decide, by decide⟩, by decide +kernel, by decide⟩, ax_in 1347 (by decide +kernel) rfl, ax_in 1348 (by decide +kernel) rfl⟩
def md_X9_copy : ax_Md := (yX9_copy, cX9_copy, 7, (some .int))
theorem vm_X9_copy : ax_vm md_X9_copy 5 := ⟨⟨ax_in 1354 (by decide +kernel) rfl, ax_in 74 (by decide +kernel) rfl, ⟨by decide, by decide⟩, by decide +kernel, by decide⟩, ax_in 1352 (by decide +kernel) rfl, ax_in 1353 (by decide +kernel) rfl⟩
def md_X9_write : ax_Md := (yX9_write, cX9_write, 3, (some .int))
theorem vm_X9_write : ax_vm md_X9_write 1 := ⟨⟨ax_in 1358 (by decide +kernel) rfl, ax_in 74 (by decide +kernel) rfl, ⟨by decide, by decide⟩, by decide +kernel, by decide⟩, ax_in 1356 (by decide +kernel) rfl, ax_in 1357 (by decide +kernel) rfl⟩
def md_X9_count : ax_Md := (yX9_count, cX9_count, 2, (some .int))
theorem vm_X9_count : ax_vm md_X9_count 1 := ⟨⟨ax_in 1362 (by decide +kernel) rfl, ax_in 74 (by decide +kernel) rfl, ⟨by decide, by decide⟩, by decide +kernel, by decide⟩, ax_in 1360 (by decide +kernel) rfl, ax_in 1361 (by decide +kernel) rfl⟩
def md_X9_sumOf : ax_Md := (yX9_sumOf, cX9_sumOf, 5, (some .int))
theorem vm_X9_sumOf : ax_vm md_X9_sumOf 1 := ⟨⟨ax_in 1366 (by decide +kernel) rfl, ax_in 74 (by decide +kernel) rfl, ⟨by decide, by decide⟩, by decide +kernel, by decide⟩, ax_in 1365 (by decide +kernel) rfl, ax_in 63 (by decide +kernel) rfl⟩
def md_X9_digest : ax_Md := (yX9_digest, cX9_digest, 5, (some .long))
theorem vm_X9_digest : ax_vm md_X9_digest 0 := ⟨⟨ax_in 1370 (by decide +kernel) rfl, ax_in 74 (by decide +kernel) rfl, ⟨by decide, by decide⟩, by decide +kernel, by decide⟩, ax_in 1368 (by decide +kernel) rfl, ax_in 1369 (by decide +kernel) rfl⟩
def md_J_bitCount : ax_Md := (yJ6_bitCount_0f7a4, cJ6_bitCount_0f7a4, 1, (some .int))
theorem st_J_bitCount : ax_st md_J_bitCount 1 := ⟨⟨ax_in 561 (by decide +kernel) rfl, ax_in 76 (by decide +kernel) rfl, ⟨by decide, by decide⟩, by decide +kernel, by decide⟩, ax_in 560 (by decide +kernel) rfl⟩
def md_J_abs : ax_Md := (yJ9_abs_0f7a4, cJ9_abs_0f7a4, 1, (some .int))
theorem st_J_abs : ax_st md_J_abs 1 := ⟨⟨ax_in 756 (by decide +kernel) rfl, ax_in 75 (by decide +kernel) rfl, ⟨by decide, by decide⟩, by decide +kernel, by decide⟩, ax_in 755 (by decide +kernel) rfl⟩
def md_J_max : ax_Md := (yJ9_max_7cf53, cJ9_max_7cf53, 2, (some .int))
theorem st_J_max : ax_st md_J_max 2 := ⟨⟨ax_in 834 (by decide +kernel) rfl, ax_in 75 (by decide +kernel) rfl, ⟨by decide, by decide⟩, by decide +kernel, by decide⟩, ax_in 833 (by decide +kernel) rfl⟩
def md_J_min : ax_Md := (yJ9_min_7cf53, cJ9_min_7cf53, 2, (some .int))
theorem st_J_min : ax_st md_J_min 2 := ⟨⟨ax_in 533 (by decide +kernel) rfl, ax_in 75 (by decide +kernel) rfl, ⟨by decide, by decide⟩, by decide +kernel, by decide⟩, ax_in 532 (by decide +kernel) rfl⟩
theorem lk_L_13 : Cond.methodLink RL 13 yX8_type ∈ ax_big := ax_in 384 (by decide +kernel) rfl
theorem lk_8_74 : Cond.methodLink RX8 74 yX8_within ∈ ax_big := ax_in 388 (by decide +kernel) rfl
theorem lk_8_87 : Cond.methodLink RX8 87 yX8_nightChanged ∈ ax_big := ax_in 391 (by decide +kernel) rfl
theorem lk_8_90 : Cond.methodLink RX8 90 yX0_take ∈ ax_big := ax_in 395 (by decide +kernel) rfl
theorem lk_0_34 : Cond.methodLink RX0 34 yX0_goesOn ∈ ax_big := ax_in 399 (by decide +kernel) rfl
theorem lk_0_50 : Cond.methodLinkNest RX0 50 yX8_kindOf "SecondChances" ∈ ax_nw := ax_inN 403 (by decide +kernel) rfl
theorem lk_0_54 : Cond.methodLink RX0 54 yX0_takeInto ∈ ax_big := ax_in 406 (by decide +kernel) rfl
theorem lk_0_58 : Cond.methodLinkNest RX0 58 yX8_figureOf "SecondChances" ∈ ax_nw := ax_inN 410 (by decide +kernel) rfl
theorem lk_0_62 : Cond.methodLink RX0 62 yX0_takeWho ∈ ax_big := ax_in 413 (by decide +kernel) rfl
theorem lk_0_65 : Cond.methodLinkNest RX0 65 yX8_within "SecondChances" ∈ ax_nw := ax_inN 417 (by decide +kernel) rfl
theorem lk_0_69 : Cond.methodLinkNest RX0 69 yX8_hasBit "SecondChances" ∈ ax_nw := ax_inN 418 (by decide +kernel) rfl
theorem lk_8_94 : Cond.methodLink RX8 94 yX5_take ∈ ax_big := ax_in 421 (by decide +kernel) rfl
theorem lk_5_29 : Cond.methodLink RX5 29 yX5_goesOn ∈ ax_big := ax_in 425 (by decide +kernel) rfl
theorem lk_5_49 : Cond.methodLinkNest RX5 49 yX8_kindOf "SecondChances" ∈ ax_nw := ax_inN 429 (by decide +kernel) rfl
theorem lk_5_53 : Cond.methodLink RX5 53 yX5_takeKind ∈ ax_big := ax_in 430 (by decide +kernel) rfl
theorem lk_5_56 : Cond.methodLinkNest RX5 56 yX8_figureOf "SecondChances" ∈ ax_nw := ax_inN 434 (by decide +kernel) rfl
theorem lk_5_60 : Cond.methodLink RX5 60 yX5_takeMany ∈ ax_big := ax_in 435 (by decide +kernel) rfl
theorem lk_5_45 : Cond.methodLink RX5 45 yX5_say ∈ ax_big := ax_in 439 (by decide +kernel) rfl
theorem lk_5_63 : Cond.methodLink RX5 63 yX5_takeMark ∈ ax_big := ax_in 443 (by decide +kernel) rfl
theorem lk_L_18 : Cond.methodLink RL 18 yX8_wipe ∈ ax_big := ax_in 447 (by decide +kernel) rfl
theorem lk_8_95 : Cond.methodLink RX8 95 yX0_clear ∈ ax_big := ax_in 451 (by decide +kernel) rfl
theorem lk_8_99 : Cond.methodLink RX8 99 yX5_clear ∈ ax_big := ax_in 455 (by decide +kernel) rfl
theorem lk_L_23 : Cond.methodLink RL 23 yX8_fault ∈ ax_big := ax_in 459 (by decide +kernel) rfl
theorem lk_L_27 : Cond.methodLink RL 27 yX8_deed ∈ ax_big := ax_in 463 (by decide +kernel) rfl
theorem lk_8_104 : Cond.methodLink RX8 104 yX8_isDeed ∈ ax_big := ax_in 467 (by decide +kernel) rfl
theorem lk_L_31 : Cond.methodLink RL 31 yX8_rule ∈ ax_big := ax_in 471 (by decide +kernel) rfl
theorem lk_8_123 : Cond.methodLink RX8 123 yX5_needOf ∈ ax_big := ax_in 475 (by decide +kernel) rfl
theorem lk_8_126 : Cond.methodLink RX8 126 yX5_asksWeather ∈ ax_big := ax_in 479 (by decide +kernel) rfl
theorem lk_8_129 : Cond.methodLink RX8 129 yX5_asksPlace ∈ ax_big := ax_in 483 (by decide +kernel) rfl
theorem lk_L_35 : Cond.methodLink RL 35 yX8_person ∈ ax_big := ax_in 487 (by decide +kernel) rfl
theorem lk_8_137 : Cond.methodLink RX8 137 yX1_changeTrait ∈ ax_big := ax_in 493 (by decide +kernel) rfl
theorem lk_L_40 : Cond.methodLink RL 40 yX8_weather ∈ ax_big := ax_in 497 (by decide +kernel) rfl
theorem lk_8_141 : Cond.methodLink RX8 141 yX1_changeSky ∈ ax_big := ax_in 501 (by decide +kernel) rfl
theorem lk_L_44 : Cond.methodLink RL 44 yX8_set ∈ ax_big := ax_in 505 (by decide +kernel) rfl
theorem lk_8_148 : Cond.methodLink RX8 148 yX1_changeSetting ∈ ax_big := ax_in 511 (by decide +kernel) rfl
theorem lk_L_48 : Cond.methodLink RL 48 yX8_read ∈ ax_big := ax_in 515 (by decide +kernel) rfl
theorem lk_8_151 : Cond.methodLink RX8 151 yX6_isNumber ∈ ax_big := ax_in 519 (by decide +kernel) rfl
theorem lk_6_23 : Cond.methodLinkNest RX6 23 yX8_within "SecondChances" ∈ ax_nw := ax_inN 522 (by decide +kernel) rfl
theorem lk_8_154 : Cond.methodLink RX8 154 yX6_isLost ∈ ax_big := ax_in 523 (by decide +kernel) rfl
theorem lk_8_157 : Cond.methodLink RX8 157 yX6_tell ∈ ax_big := ax_in 527 (by decide +kernel) rfl
theorem lk_8_163 : Cond.methodLink RX8 163 yJ9_min_7cf53 ∈ ax_big := ax_in 531 (by decide +kernel) rfl
theorem lk_L_52 : Cond.methodLink RL 52 yX8_can ∈ ax_big := ax_in 534 (by decide +kernel) rfl
theorem lk_8_175 : Cond.methodLink RX8 175 yX8_reckonOffers ∈ ax_big := ax_in 538 (by decide +kernel) rfl
theorem lk_8_379 : Cond.methodLink RX8 379 yX2_reckon ∈ ax_big := ax_in 542 (by decide +kernel) rfl
theorem lk_2_52 : Cond.methodLink RX2 52 yX2_sortByPrice ∈ ax_big := ax_in 546 (by decide +kernel) rfl
theorem lk_2_93 : Cond.methodLink RX2 93 yX1_trait ∈ ax_big := ax_in 550 (by decide +kernel) rfl
theorem lk_2_59 : Cond.methodLink RX2 59 yX2_applyRule ∈ ax_big := ax_in 554 (by decide +kernel) rfl
theorem lk_2_70 : Cond.methodLink RX2 70 yX5_needOf ∈ ax_big := ax_in 558 (by decide +kernel) rfl
theorem lk_2_77 : Cond.methodLink RX2 77 yJ6_bitCount_0f7a4 ∈ ax_big := ax_in 559 (by decide +kernel) rfl
theorem lk_2_82 : Cond.methodLink RX2 82 yJ9_min_7cf53 ∈ ax_big := ax_in 565 (by decide +kernel) rfl
theorem lk_2_88 : Cond.methodLink RX2 88 yX5_asksWeather ∈ ax_big := ax_in 566 (by decide +kernel) rfl
theorem lk_2_91 : Cond.methodLink RX2 91 yX5_asksPlace ∈ ax_big := ax_in 567 (by decide +kernel) rfl
theorem lk_2_63 : Cond.methodLink RX2 63 yX2_reckonOne ∈ ax_big := ax_in 568 (by decide +kernel) rfl
theorem lk_2_96 : Cond.methodLinkNest RX2 96 yX8_hasBit "SecondChances" ∈ ax_nw := ax_inN 572 (by decide +kernel) rfl
theorem lk_2_100 : Cond.methodLink RX2 100 yX1_isHere ∈ ax_big := ax_in 573 (by decide +kernel) rfl
theorem lk_2_103 : Cond.methodLink RX2 103 yX2_isTurned ∈ ax_big := ax_in 577 (by decide +kernel) rfl
theorem lk_8_178 : Cond.methodLink RX8 178 yX2_isOpen ∈ ax_big := ax_in 581 (by decide +kernel) rfl
theorem lk_L_56 : Cond.methodLink RL 56 yX8_hours ∈ ax_big := ax_in 585 (by decide +kernel) rfl
theorem lk_8_181 : Cond.methodLink RX8 181 yX2_openHours ∈ ax_big := ax_in 589 (by decide +kernel) rfl
theorem lk_2_112 : Cond.methodLink RX2 112 yX2_isOpen ∈ ax_big := ax_in 593 (by decide +kernel) rfl
theorem lk_L_60 : Cond.methodLink RL 60 yX8_comes ∈ ax_big := ax_in 594 (by decide +kernel) rfl
theorem lk_8_184 : Cond.methodLink RX8 184 yX2_whoComes ∈ ax_big := ax_in 598 (by decide +kernel) rfl
theorem lk_L_64 : Cond.methodLink RL 64 yX8_costs ∈ ax_big := ax_in 602 (by decide +kernel) rfl
theorem lk_8_187 : Cond.methodLink RX8 187 yX2_fullPrice ∈ ax_big := ax_in 606 (by decide +kernel) rfl
theorem lk_2_109 : Cond.methodLink RX2 109 yX2_priceOfPeople ∈ ax_big := ax_in 610 (by decide +kernel) rfl
theorem lk_L_68 : Cond.methodLink RL 68 yX8_most ∈ ax_big := ax_in 614 (by decide +kernel) rfl
theorem lk_8_190 : Cond.methodLink RX8 190 yX8_reckonPlan ∈ ax_big := ax_in 618 (by decide +kernel) rfl
theorem lk_8_382 : Cond.methodLink RX8 382 yX4_reckon ∈ ax_big := ax_in 622 (by decide +kernel) rfl
theorem lk_4_32 : Cond.methodLink RX4 32 yX2_hopefulDeeds ∈ ax_big := ax_in 626 (by decide +kernel) rfl
theorem lk_2_115 : Cond.methodLink RX2 115 yX2_openHours ∈ ax_big := ax_in 630 (by decide +kernel) rfl
theorem lk_4_42 : Cond.methodLink RX4 42 yX4_reckonTogether ∈ ax_big := ax_in 632 (by decide +kernel) rfl
theorem lk_4_90 : Cond.methodLink RX4 90 yX2_isOpen ∈ ax_big := ax_in 636 (by decide +kernel) rfl
theorem lk_4_93 : Cond.methodLink RX4 93 yX4_apartFrom ∈ ax_big := ax_in 637 (by decide +kernel) rfl
theorem lk_4_103 : Cond.methodLink RX4 103 yX2_areApart ∈ ax_big := ax_in 641 (by decide +kernel) rfl
theorem lk_4_97 : Cond.methodLink RX4 97 yX2_priceOfPeople ∈ ax_big := ax_in 645 (by decide +kernel) rfl
theorem lk_4_46 : Cond.methodLink RX4 46 yX4_joinHour ∈ ax_big := ax_in 649 (by decide +kernel) rfl
theorem lk_4_52 : Cond.methodLink RX4 52 arraycopyName ∈ ax_big := ax_in 653 (by decide +kernel) rfl
theorem lk_4_58 : Cond.methodLink RX4 58 yX4_turnedBy ∈ ax_big := ax_in 656 (by decide +kernel) rfl
theorem lk_4_86 : Cond.methodLink RX4 86 yX2_isTurned ∈ ax_big := ax_in 660 (by decide +kernel) rfl
theorem lk_4_73 : Cond.methodLink RX4 73 yX4_joinWithRest ∈ ax_big := ax_in 661 (by decide +kernel) rfl
theorem lk_4_49 : Cond.methodLink RX4 49 yX4_choose ∈ ax_big := ax_in 665 (by decide +kernel) rfl
theorem lk_4_110 : Cond.methodLink RX4 110 yX0_worthOf ∈ ax_big := ax_in 669 (by decide +kernel) rfl
theorem lk_L_72 : Cond.methodLink RL 72 yX8_when ∈ ax_big := ax_in 674 (by decide +kernel) rfl
theorem lk_L_76 : Cond.methodLink RL 76 yX8_plan ∈ ax_big := ax_in 678 (by decide +kernel) rfl
theorem lk_8_203 : Cond.methodLink RX8 203 yX2_isPlan ∈ ax_big := ax_in 682 (by decide +kernel) rfl
theorem lk_2_130 : Cond.methodLink RX2 130 yX2_fitsBehind ∈ ax_big := ax_in 686 (by decide +kernel) rfl
theorem lk_2_134 : Cond.methodLinkNest RX2 134 yX8_within "SecondChances" ∈ ax_nw := ax_inN 690 (by decide +kernel) rfl
theorem lk_2_137 : Cond.methodLink RX2 137 yX2_areApart ∈ ax_big := ax_in 691 (by decide +kernel) rfl
theorem lk_8_207 : Cond.methodLink RX8 207 yX2_worthOfPlan ∈ ax_big := ax_in 692 (by decide +kernel) rfl
theorem lk_8_211 : Cond.methodLink RX8 211 yX2_costOfPlan ∈ ax_big := ax_in 696 (by decide +kernel) rfl
theorem lk_L_80 : Cond.methodLink RL 80 yX8_asked ∈ ax_big := ax_in 700 (by decide +kernel) rfl
theorem lk_8_214 : Cond.methodLink RX8 214 yX2_timesAsked ∈ ax_big := ax_in 704 (by decide +kernel) rfl
theorem lk_2_118 : Cond.methodLink RX2 118 yX2_whoComes ∈ ax_big := ax_in 708 (by decide +kernel) rfl
theorem lk_L_84 : Cond.methodLink RL 84 yX8_crowd ∈ ax_big := ax_in 709 (by decide +kernel) rfl
theorem lk_L_88 : Cond.methodLink RL 88 yX8_likeness ∈ ax_big := ax_in 713 (by decide +kernel) rfl
theorem lk_8_217 : Cond.methodLink RX8 217 yX2_tenths ∈ ax_big := ax_in 717 (by decide +kernel) rfl
theorem lk_L_92 : Cond.methodLink RL 92 yX8_odds ∈ ax_big := ax_in 721 (by decide +kernel) rfl
theorem lk_8_220 : Cond.methodLink RX8 220 yX8_refusal ∈ ax_big := ax_in 725 (by decide +kernel) rfl
theorem lk_8_227 : Cond.methodLink RX8 227 yX8_hasBit ∈ ax_big := ax_in 729 (by decide +kernel) rfl
theorem lk_8_230 : Cond.methodLink RX8 230 yX1_trait ∈ ax_big := ax_in 730 (by decide +kernel) rfl
theorem lk_8_233 : Cond.methodLink RX8 233 yX8_lowestTerm ∈ ax_big := ax_in 731 (by decide +kernel) rfl
theorem lk_L_97 : Cond.methodLink RL 97 yX8_seen ∈ ax_big := ax_in 734 (by decide +kernel) rfl
theorem lk_8_237 : Cond.methodLink RX8 237 yX7_isFull ∈ ax_big := ax_in 738 (by decide +kernel) rfl
theorem lk_8_241 : Cond.methodLink RX8 241 yX7_add ∈ ax_big := ax_in 742 (by decide +kernel) rfl
theorem lk_7_30 : Cond.methodLink RX7 30 yX7_meetFoes ∈ ax_big := ax_in 746 (by decide +kernel) rfl
theorem lk_7_34 : Cond.methodLink RX7 34 yX7_clash ∈ ax_big := ax_in 750 (by decide +kernel) rfl
theorem lk_7_38 : Cond.methodLink RX7 38 yJ9_abs_0f7a4 ∈ ax_big := ax_in 754 (by decide +kernel) rfl
theorem lk_L_101 : Cond.methodLink RL 101 yX8_isFalse ∈ ax_big := ax_in 757 (by decide +kernel) rfl
theorem lk_8_245 : Cond.methodLink RX8 245 yX7_clash ∈ ax_big := ax_in 761 (by decide +kernel) rfl
theorem lk_L_105 : Cond.methodLink RL 105 yX8_hats ∈ ax_big := ax_in 762 (by decide +kernel) rfl
theorem lk_8_248 : Cond.methodLink RX8 248 yX7_fewestFalse ∈ ax_big := ax_in 766 (by decide +kernel) rfl
theorem lk_7_44 : Cond.methodLink RX7 44 yX7_searchFewest ∈ ax_big := ax_in 770 (by decide +kernel) rfl
theorem lk_7_51 : Cond.methodLink RX7 51 yJ6_bitCount_0f7a4 ∈ ax_big := ax_in 774 (by decide +kernel) rfl
theorem lk_7_56 : Cond.methodLink RX7 56 yX7_isPeaceful ∈ ax_big := ax_in 775 (by decide +kernel) rfl
theorem lk_7_60 : Cond.methodLinkNest RX7 60 yX8_hasBit "SecondChances" ∈ ax_nw := ax_inN 779 (by decide +kernel) rfl
theorem lk_8_251 : Cond.methodLink RX8 251 yJ6_bitCount_0f7a4 ∈ ax_big := ax_in 780 (by decide +kernel) rfl
theorem lk_L_109 : Cond.methodLink RL 109 yX8_after ∈ ax_big := ax_in 781 (by decide +kernel) rfl
theorem lk_8_256 : Cond.methodLink RX8 256 yX3_isFull ∈ ax_big := ax_in 785 (by decide +kernel) rfl
theorem lk_8_257 : Cond.methodLink RX8 257 yX3_add ∈ ax_big := ax_in 789 (by decide +kernel) rfl
theorem lk_L_113 : Cond.methodLink RL 113 yX8_forget ∈ ax_big := ax_in 793 (by decide +kernel) rfl
theorem lk_8_259 : Cond.methodLink RX8 259 yX7_clear ∈ ax_big := ax_in 797 (by decide +kernel) rfl
theorem lk_8_260 : Cond.methodLink RX8 260 yX3_clear ∈ ax_big := ax_in 801 (by decide +kernel) rfl
theorem lk_L_117 : Cond.methodLink RL 117 yX8_spared ∈ ax_big := ax_in 805 (by decide +kernel) rfl
theorem lk_8_261 : Cond.methodLink RX8 261 yX0_allBits ∈ ax_big := ax_in 809 (by decide +kernel) rfl
theorem lk_8_264 : Cond.methodLink RX8 264 yX8_sparedBy ∈ ax_big := ax_in 813 (by decide +kernel) rfl
theorem lk_8_376 : Cond.methodLink RX8 376 yX3_reached ∈ ax_big := ax_in 817 (by decide +kernel) rfl
theorem lk_3_22 : Cond.methodLinkNest RX3 22 yX8_hasBit "SecondChances" ∈ ax_nw := ax_inN 821 (by decide +kernel) rfl
theorem lk_8_307 : Cond.methodLink RX8 307 yX0_worthOf ∈ ax_big := ax_in 822 (by decide +kernel) rfl
theorem lk_L_121 : Cond.methodLink RL 121 yX8_best ∈ ax_big := ax_in 823 (by decide +kernel) rfl
theorem lk_L_126 : Cond.methodLink RL 126 yX8_regrets ∈ ax_big := ax_in 827 (by decide +kernel) rfl
theorem lk_8_267 : Cond.methodLink RX8 267 yX2_hopefulDeeds ∈ ax_big := ax_in 831 (by decide +kernel) rfl
theorem lk_8_270 : Cond.methodLink RX8 270 yJ9_max_7cf53 ∈ ax_big := ax_in 832 (by decide +kernel) rfl
theorem lk_L_131 : Cond.methodLink RL 131 yX8_sheet ∈ ax_big := ax_in 835 (by decide +kernel) rfl
theorem lk_8_273 : Cond.methodLink RX8 273 yX6_isForm ∈ ax_big := ax_in 839 (by decide +kernel) rfl
theorem lk_8_276 : Cond.methodLink RX8 276 yX6_renew ∈ ax_big := ax_in 842 (by decide +kernel) rfl
theorem lk_L_135 : Cond.methodLink RL 135 yX8_lose ∈ ax_big := ax_in 846 (by decide +kernel) rfl
theorem lk_8_279 : Cond.methodLink RX8 279 yX6_drop ∈ ax_big := ax_in 850 (by decide +kernel) rfl
theorem lk_L_139 : Cond.methodLink RL 139 yX8_put ∈ ax_big := ax_in 854 (by decide +kernel) rfl
theorem lk_8_282 : Cond.methodLink RX8 282 yX6_findingAt ∈ ax_big := ax_in 858 (by decide +kernel) rfl
theorem lk_6_31 : Cond.methodLink RX6 31 yX6_isLost ∈ ax_big := ax_in 862 (by decide +kernel) rfl
theorem lk_8_285 : Cond.methodLink RX8 285 yX6_store ∈ ax_big := ax_in 863 (by decide +kernel) rfl
theorem lk_L_144 : Cond.methodLink RL 144 yX8_get ∈ ax_big := ax_in 867 (by decide +kernel) rfl
theorem lk_L_148 : Cond.methodLink RL 148 yX8_copy ∈ ax_big := ax_in 872 (by decide +kernel) rfl
theorem lk_8_293 : Cond.methodLink RX8 293 yX6_hasSpan ∈ ax_big := ax_in 876 (by decide +kernel) rfl
theorem lk_8_297 : Cond.methodLink RX8 297 arraycopyName ∈ ax_big := ax_in 880 (by decide +kernel) rfl
theorem lk_L_153 : Cond.methodLink RL 153 yX8_write ∈ ax_big := ax_in 881 (by decide +kernel) rfl
theorem lk_L_157 : Cond.methodLink RL 157 yX8_count ∈ ax_big := ax_in 885 (by decide +kernel) rfl
theorem lk_8_310 : Cond.methodLink RX8 310 yX1_rainyHours ∈ ax_big := ax_in 889 (by decide +kernel) rfl
theorem lk_L_161 : Cond.methodLink RL 161 yX8_digest ∈ ax_big := ax_in 893 (by decide +kernel) rfl
theorem lk_8_318 : Cond.methodLink RX8 318 yX8_count ∈ ax_big := ax_in 898 (by decide +kernel) rfl
theorem lk_8_321 : Cond.methodLink RX8 321 yX8_mix ∈ ax_big := ax_in 899 (by decide +kernel) rfl
theorem lk_8_325 : Cond.methodLink RX8 325 yX8_fault ∈ ax_big := ax_in 903 (by decide +kernel) rfl
theorem lk_8_328 : Cond.methodLink RX8 328 yX8_mixDeed ∈ ax_big := ax_in 904 (by decide +kernel) rfl
theorem lk_8_357 : Cond.methodLink RX8 357 yX8_deed ∈ ax_big := ax_in 908 (by decide +kernel) rfl
theorem lk_8_360 : Cond.methodLink RX8 360 yX8_hours ∈ ax_big := ax_in 909 (by decide +kernel) rfl
theorem lk_8_363 : Cond.methodLink RX8 363 yX8_costs ∈ ax_big := ax_in 910 (by decide +kernel) rfl
theorem lk_8_366 : Cond.methodLink RX8 366 yX8_likeness ∈ ax_big := ax_in 911 (by decide +kernel) rfl
theorem lk_8_369 : Cond.methodLink RX8 369 yX8_odds ∈ ax_big := ax_in 912 (by decide +kernel) rfl
theorem lk_8_332 : Cond.methodLink RX8 332 yX8_when ∈ ax_big := ax_in 913 (by decide +kernel) rfl
theorem lk_8_335 : Cond.methodLink RX8 335 yX8_spared ∈ ax_big := ax_in 914 (by decide +kernel) rfl
theorem lk_8_338 : Cond.methodLink RX8 338 yX8_rule ∈ ax_big := ax_in 915 (by decide +kernel) rfl
theorem lk_8_341 : Cond.methodLink RX8 341 yX8_most ∈ ax_big := ax_in 916 (by decide +kernel) rfl
theorem lk_8_344 : Cond.methodLink RX8 344 yX8_crowd ∈ ax_big := ax_in 917 (by decide +kernel) rfl
theorem lk_8_347 : Cond.methodLink RX8 347 yX8_hats ∈ ax_big := ax_in 918 (by decide +kernel) rfl
theorem lk_8_350 : Cond.methodLink RX8 350 yX8_best ∈ ax_big := ax_in 919 (by decide +kernel) rfl
theorem lk_8_353 : Cond.methodLink RX8 353 yX8_regrets ∈ ax_big := ax_in 920 (by decide +kernel) rfl
theorem lk_L_17 : Cond.methodLink RL 17 yX9_type ∈ ax_big := ax_in 1045 (by decide +kernel) rfl
theorem lk_9_103 : Cond.methodLink RX9 103 yX9_in ∈ ax_big := ax_in 1049 (by decide +kernel) rfl
theorem lk_L_22 : Cond.methodLink RL 22 yX9_wipe ∈ ax_big := ax_in 1052 (by decide +kernel) rfl
theorem lk_L_26 : Cond.methodLink RL 26 yX9_fault ∈ ax_big := ax_in 1056 (by decide +kernel) rfl
theorem lk_9_136 : Cond.methodLink RX9 136 yX9_faultOf ∈ ax_big := ax_in 1060 (by decide +kernel) rfl
theorem lk_9_129 : Cond.methodLink RX9 129 yX9_readsDeeds ∈ ax_big := ax_in 1064 (by decide +kernel) rfl
theorem lk_9_111 : Cond.methodLink RX9 111 yX9_byteAt ∈ ax_big := ax_in 1068 (by decide +kernel) rfl
theorem lk_9_115 : Cond.methodLink RX9 115 yX9_kindBy ∈ ax_big := ax_in 1072 (by decide +kernel) rfl
theorem lk_9_119 : Cond.methodLink RX9 119 yX9_isIn ∈ ax_big := ax_in 1075 (by decide +kernel) rfl
theorem lk_9_133 : Cond.methodLink RX9 133 yX9_readsRules ∈ ax_big := ax_in 1078 (by decide +kernel) rfl
theorem lk_9_126 : Cond.methodLink RX9 126 yX9_noRules ∈ ax_big := ax_in 1082 (by decide +kernel) rfl
theorem lk_L_30 : Cond.methodLink RL 30 yX9_deed ∈ ax_big := ax_in 1086 (by decide +kernel) rfl
theorem lk_9_142 : Cond.methodLink RX9 142 yX9_isDeed ∈ ax_big := ax_in 1090 (by decide +kernel) rfl
theorem lk_9_139 : Cond.methodLink RX9 139 yX9_reads ∈ ax_big := ax_in 1094 (by decide +kernel) rfl
theorem lk_9_146 : Cond.methodLink RX9 146 yX9_deedOf ∈ ax_big := ax_in 1098 (by decide +kernel) rfl
theorem lk_L_34 : Cond.methodLink RL 34 yX9_rule ∈ ax_big := ax_in 1102 (by decide +kernel) rfl
theorem lk_9_149 : Cond.methodLink RX9 149 yX9_ruleOf ∈ ax_big := ax_in 1106 (by decide +kernel) rfl
theorem lk_L_39 : Cond.methodLink RL 39 yX9_person ∈ ax_big := ax_in 1110 (by decide +kernel) rfl
theorem lk_9_152 : Cond.methodLink RX9 152 yX9_isPerson ∈ ax_big := ax_in 1114 (by decide +kernel) rfl
theorem lk_L_43 : Cond.methodLink RL 43 yX9_weather ∈ ax_big := ax_in 1117 (by decide +kernel) rfl
theorem lk_9_155 : Cond.methodLink RX9 155 yX9_isHour ∈ ax_big := ax_in 1121 (by decide +kernel) rfl
theorem lk_L_47 : Cond.methodLink RL 47 yX9_set ∈ ax_big := ax_in 1124 (by decide +kernel) rfl
theorem lk_L_51 : Cond.methodLink RL 51 yX9_read ∈ ax_big := ax_in 1128 (by decide +kernel) rfl
theorem lk_9_158 : Cond.methodLink RX9 158 yX9_isSheet ∈ ax_big := ax_in 1132 (by decide +kernel) rfl
theorem lk_9_161 : Cond.methodLink RX9 161 yX9_meets ∈ ax_big := ax_in 1135 (by decide +kernel) rfl
theorem lk_L_55 : Cond.methodLink RL 55 yX9_can ∈ ax_big := ax_in 1139 (by decide +kernel) rfl
theorem lk_9_176 : Cond.methodLink RX9 176 yX9_canOf ∈ ax_big := ax_in 1143 (by decide +kernel) rfl
theorem lk_9_173 : Cond.methodLink RX9 173 yX9_comesOf ∈ ax_big := ax_in 1147 (by decide +kernel) rfl
theorem lk_9_167 : Cond.methodLink RX9 167 yX9_isTurned ∈ ax_big := ax_in 1151 (by decide +kernel) rfl
theorem lk_9_170 : Cond.methodLink RX9 170 yX9_needs ∈ ax_big := ax_in 1155 (by decide +kernel) rfl
theorem lk_9_164 : Cond.methodLink RX9 164 yX9_ones ∈ ax_big := ax_in 1159 (by decide +kernel) rfl
theorem lk_L_59 : Cond.methodLink RL 59 yX9_hours ∈ ax_big := ax_in 1162 (by decide +kernel) rfl
theorem lk_9_179 : Cond.methodLink RX9 179 yX9_hoursOf ∈ ax_big := ax_in 1166 (by decide +kernel) rfl
theorem lk_L_63 : Cond.methodLink RL 63 yX9_comes ∈ ax_big := ax_in 1170 (by decide +kernel) rfl
theorem lk_L_67 : Cond.methodLink RL 67 yX9_costs ∈ ax_big := ax_in 1174 (by decide +kernel) rfl
theorem lk_9_185 : Cond.methodLink RX9 185 yX9_costsOf ∈ ax_big := ax_in 1178 (by decide +kernel) rfl
theorem lk_9_182 : Cond.methodLink RX9 182 yX9_pricesOf ∈ ax_big := ax_in 1182 (by decide +kernel) rfl
theorem lk_L_71 : Cond.methodLink RL 71 yX9_most ∈ ax_big := ax_in 1186 (by decide +kernel) rfl
theorem lk_9_211 : Cond.methodLink RX9 211 yX9_laysMost ∈ ax_big := ax_in 1190 (by decide +kernel) rfl
theorem lk_9_198 : Cond.methodLink RX9 198 yX9_costTogether ∈ ax_big := ax_in 1194 (by decide +kernel) rfl
theorem lk_9_201 : Cond.methodLink RX9 201 yX9_bestOf ∈ ax_big := ax_in 1199 (by decide +kernel) rfl
theorem lk_9_195 : Cond.methodLink RX9 195 yX9_worthBy ∈ ax_big := ax_in 1203 (by decide +kernel) rfl
theorem lk_L_75 : Cond.methodLink RL 75 yX9_when ∈ ax_big := ax_in 1207 (by decide +kernel) rfl
theorem lk_L_79 : Cond.methodLink RL 79 yX9_plan ∈ ax_big := ax_in 1211 (by decide +kernel) rfl
theorem lk_9_217 : Cond.methodLink RX9 217 yX9_planOf ∈ ax_big := ax_in 1215 (by decide +kernel) rfl
theorem lk_9_214 : Cond.methodLink RX9 214 yX9_planCostOf ∈ ax_big := ax_in 1219 (by decide +kernel) rfl
theorem lk_L_83 : Cond.methodLink RL 83 yX9_asked ∈ ax_big := ax_in 1223 (by decide +kernel) rfl
theorem lk_9_220 : Cond.methodLink RX9 220 yX9_askedOf ∈ ax_big := ax_in 1227 (by decide +kernel) rfl
theorem lk_L_87 : Cond.methodLink RL 87 yX9_crowd ∈ ax_big := ax_in 1231 (by decide +kernel) rfl
theorem lk_9_223 : Cond.methodLink RX9 223 yX9_crowdOf ∈ ax_big := ax_in 1235 (by decide +kernel) rfl
theorem lk_L_91 : Cond.methodLink RL 91 yX9_likeness ∈ ax_big := ax_in 1239 (by decide +kernel) rfl
theorem lk_9_226 : Cond.methodLink RX9 226 yX9_likenessOf ∈ ax_big := ax_in 1243 (by decide +kernel) rfl
theorem lk_L_96 : Cond.methodLink RL 96 yX9_odds ∈ ax_big := ax_in 1247 (by decide +kernel) rfl
theorem lk_9_239 : Cond.methodLink RX9 239 yX9_oddsOf ∈ ax_big := ax_in 1251 (by decide +kernel) rfl
theorem lk_9_229 : Cond.methodLink RX9 229 yX9_no ∈ ax_big := ax_in 1255 (by decide +kernel) rfl
theorem lk_9_235 : Cond.methodLink RX9 235 yX9_lowest ∈ ax_big := ax_in 1260 (by decide +kernel) rfl
theorem lk_L_100 : Cond.methodLink RL 100 yX9_seen ∈ ax_big := ax_in 1263 (by decide +kernel) rfl
theorem lk_L_104 : Cond.methodLink RL 104 yX9_isFalse ∈ ax_big := ax_in 1267 (by decide +kernel) rfl
theorem lk_9_246 : Cond.methodLink RX9 246 yX9_isSight ∈ ax_big := ax_in 1271 (by decide +kernel) rfl
theorem lk_9_249 : Cond.methodLink RX9 249 yX9_areFalse ∈ ax_big := ax_in 1275 (by decide +kernel) rfl
theorem lk_L_108 : Cond.methodLink RL 108 yX9_hats ∈ ax_big := ax_in 1279 (by decide +kernel) rfl
theorem lk_9_252 : Cond.methodLink RX9 252 yX9_hatsOf ∈ ax_big := ax_in 1283 (by decide +kernel) rfl
theorem lk_L_112 : Cond.methodLink RL 112 yX9_after ∈ ax_big := ax_in 1287 (by decide +kernel) rfl
theorem lk_L_116 : Cond.methodLink RL 116 yX9_forget ∈ ax_big := ax_in 1291 (by decide +kernel) rfl
theorem lk_L_120 : Cond.methodLink RL 120 yX9_spared ∈ ax_big := ax_in 1295 (by decide +kernel) rfl
theorem lk_9_258 : Cond.methodLink RX9 258 yX9_allDeeds ∈ ax_big := ax_in 1299 (by decide +kernel) rfl
theorem lk_9_261 : Cond.methodLink RX9 261 yX9_sparedOf ∈ ax_big := ax_in 1303 (by decide +kernel) rfl
theorem lk_L_125 : Cond.methodLink RL 125 yX9_best ∈ ax_big := ax_in 1307 (by decide +kernel) rfl
theorem lk_9_264 : Cond.methodLink RX9 264 yX9_bestNow ∈ ax_big := ax_in 1311 (by decide +kernel) rfl
theorem lk_L_130 : Cond.methodLink RL 130 yX9_regrets ∈ ax_big := ax_in 1315 (by decide +kernel) rfl
theorem lk_9_271 : Cond.methodLink RX9 271 yX9_regretsOf ∈ ax_big := ax_in 1319 (by decide +kernel) rfl
theorem lk_9_267 : Cond.methodLink RX9 267 yX9_choose ∈ ax_big := ax_in 1323 (by decide +kernel) rfl
theorem lk_L_134 : Cond.methodLink RL 134 yX9_sheet ∈ ax_big := ax_in 1326 (by decide +kernel) rfl
theorem lk_L_138 : Cond.methodLink RL 138 yX9_lose ∈ ax_big := ax_in 1330 (by decide +kernel) rfl
theorem lk_L_143 : Cond.methodLink RL 143 yX9_put ∈ ax_big := ax_in 1334 (by decide +kernel) rfl
theorem lk_9_277 : Cond.methodLink RX9 277 yX9_lacks ∈ ax_big := ax_in 1338 (by decide +kernel) rfl
theorem lk_9_281 : Cond.methodLink RX9 281 yX9_keep ∈ ax_big := ax_in 1342 (by decide +kernel) rfl
theorem lk_L_147 : Cond.methodLink RL 147 yX9_get ∈ ax_big := ax_in 1346 (by decide +kernel) rfl
theorem lk_L_152 : Cond.methodLink RL 152 yX9_copy ∈ ax_big := ax_in 1351 (by decide +kernel) rfl
theorem lk_L_156 : Cond.methodLink RL 156 yX9_write ∈ ax_big := ax_in 1355 (by decide +kernel) rfl
theorem lk_L_160 : Cond.methodLink RL 160 yX9_count ∈ ax_big := ax_in 1359 (by decide +kernel) rfl
theorem lk_9_286 : Cond.methodLink RX9 286 yX9_sumOf ∈ ax_big := ax_in 1363 (by decide +kernel) rfl
theorem lk_L_165 : Cond.methodLink RL 165 yX9_digest ∈ ax_big := ax_in 1367 (by decide +kernel) rfl
theorem lk_9_293 : Cond.methodLink RX9 293 yX9_count ∈ ax_big := ax_in 1373 (by decide +kernel) rfl
theorem cn_J_265 : Cond.constant "java/lang/Integer" 265 (1431655765) ∈ ax_big := ax_in 562 (by decide +kernel) rfl
theorem cn_J_266 : Cond.constant "java/lang/Integer" 266 (858993459) ∈ ax_big := ax_in 563 (by decide +kernel) rfl
theorem cn_J_267 : Cond.constant "java/lang/Integer" 267 (252645135) ∈ ax_big := ax_in 564 (by decide +kernel) rfl
theorem cn_4_40 : Cond.constantLong RX4 40 (1152921504606846976) ∈ ax_big := ax_in 631 (by decide +kernel) rfl
theorem cn_4_71 : Cond.constantLong RX4 71 (43046721) ∈ ax_big := ax_in 646 (by decide +kernel) rfl
theorem cn_4_116 : Cond.constantLong RX4 116 (9) ∈ ax_big := ax_in 673 (by decide +kernel) rfl
theorem cn_8_374 : Cond.constantLong RX8 374 (-9223372036854775808) ∈ ax_big := ax_in 728 (by decide +kernel) rfl
theorem cn_8_289 : Cond.constant RX8 289 (-2147483648) ∈ ax_big := ax_in 871 (by decide +kernel) rfl
theorem cn_8_316 : Cond.constantLong RX8 316 (17) ∈ ax_big := ax_in 897 (by decide +kernel) rfl
theorem cn_8_372 : Cond.constantLong RX8 372 (31) ∈ ax_big := ax_in 902 (by decide +kernel) rfl
theorem cn_9_188 : Cond.constant RX9 188 (1000000) ∈ ax_big := ax_in 1198 (by decide +kernel) rfl
theorem cn_9_101 : Cond.constantLong RX9 101 (-9223372036854775808) ∈ ax_big := ax_in 1258 (by decide +kernel) rfl
theorem cn_9_233 : Cond.constantLong RX9 233 (16) ∈ ax_big := ax_in 1259 (by decide +kernel) rfl
theorem cn_9_285 : Cond.constant RX9 285 (-2147483648) ∈ ax_big := ax_in 1350 (by decide +kernel) rfl
theorem cn_9_289 : Cond.constantLong RX9 289 (17) ∈ ax_big := ax_in 1371 (by decide +kernel) rfl
theorem cn_9_291 : Cond.constantLong RX9 291 (31) ∈ ax_big := ax_in 1372 (by decide +kernel) rfl
theorem cp_nat : Cond.native arraycopyName ∈ ax_big := ax_in 655 (by decide +kernel) rfl
theorem cp_st : Cond.static arraycopyName ∈ ax_big := ax_in 654 (by decide +kernel) rfl
theorem cp_ini : Cond.initialized "java/lang/System" ∈ ax_big := ax_in 77 (by decide +kernel) rfl
