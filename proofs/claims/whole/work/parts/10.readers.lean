set_option maxHeartbeats 4000000 in
set_option maxRecDepth 100000 in
theorem ct_X0_takeInto (g : ax_G) (M : ax_M) (v : Int) (k : Nat) (lo up : Int) (H0 : ax_arr 0 k 8 lo up) (H1 : k ≠ 0) (H2 : v = -1 ∨ lo ≤ v ∧ v ≤ up) (H3 : M 0 8 < 8) (H4 : M 0 9 ≤ 3) (H5 : -1 ≤ v ∧ v ≤ 255) : CT g md_X0_takeInto 0 [aR 0, aR k, aI v] M (pI (bi (decide (v ≠ -1))) (tiM M k v)) := by
  refine ct_intro 0 rfl rfl ?_
  intro X hg B Br
  subst hg
  show AW X 0 [some (aR 0), some (aR k), some (aI v)] [] M
  refine rr_rg (fun G0 => ?_)
  refine rr_iload2 (pc := 0) B dX0_takeInto_0 ?_
  refine rr_iconst (z := (-1)) (pc := 1) B dX0_takeInto_1 ?_
  refine rr_icmp_ne 7 (pc := 2) B dX0_takeInto_2 (by decide) (by omega) (fun b1 => ?_) (fun b1 => ?_)
  · refine rr_aload1 (pc := 7) B dX0_takeInto_7 ?_
    refine rr_aload0 (pc := 8) B dX0_takeInto_8 ?_
    refine rr_getI (pc := 9) B dX0_takeInto_9 fl_0_41 ob_0_8 (fun b2 => ?_)
    refine rr_iload2 (pc := 12) B dX0_takeInto_12 ?_
    refine rr_iastore (pc := 13) B dX0_takeInto_13 H0 (by omega) (by omega) ?_
    refine rr_aload0 (pc := 14) B dX0_takeInto_14 ?_
    refine rr_dup (pc := 15) B dX0_takeInto_15 rfl ?_
    refine rr_getI (pc := 16) B dX0_takeInto_16 fl_0_44 ob_0_9 (fun b3 => ?_)
    refine rr_iconst (z := 1) (pc := 19) B dX0_takeInto_19 ?_
    refine rr_iadd (pc := 20) B dX0_takeInto_20 ?_
    refine rr_putI (pc := 21) B dX0_takeInto_21 fl_0_44 ob_0_9 fi_0_9 (by rw [ms_0 _ _ _ _ H1]; rw [ms_0 _ _ _ _ H1] at b3; omega) ?_
    refine rr_iconst (z := 1) (pc := 24) B dX0_takeInto_24 ?_
    refine rr_zreturn (pc := 25) B Br dX0_takeInto_25 (by omega) ⟨congrArg (fun z => some (aI z)) ?_, ?_⟩
    · first | rfl | omega | (rw [decide_eq_true (by omega)]; rfl) | (rw [decide_eq_false (by omega)]; rfl) | (simp [*]; done)
    · unfold tiM; first | (rw [if_pos (by omega)]; done) | (rw [if_neg (by omega)]; done) | (rw [if_pos (by omega)]; rfl) | (rw [if_neg (by omega)]; rfl)
  · refine rr_iconst (z := 0) (pc := 5) B dX0_takeInto_5 ?_
    refine rr_zreturn (pc := 6) B Br dX0_takeInto_6 (by omega) ⟨congrArg (fun z => some (aI z)) ?_, ?_⟩
    · first | rfl | omega | (rw [decide_eq_true (by omega)]; rfl) | (rw [decide_eq_false (by omega)]; rfl) | (simp [*]; done)
    · unfold tiM; first | (rw [if_pos (by omega)]; done) | (rw [if_neg (by omega)]; done) | (rw [if_pos (by omega)]; rfl) | (rw [if_neg (by omega)]; rfl)
set_option maxHeartbeats 4000000 in
set_option maxRecDepth 100000 in
theorem ct_X0_takeWho (g : ax_G) (M : ax_M) (b : Int) (H0 : 0 ≤ b ∧ b ≤ 255) (H1 : M 0 8 < 8) : CT g md_X0_takeWho 1 [aR 0, aI b] M (pI (bi (twB M b)) (twM M b)) := by
  refine ct_intro 1 rfl rfl ?_
  intro X hg B Br
  subst hg
  show AW X 0 [some (aR 0), some (aI b), none] [] M
  refine rr_rg (fun G0 => ?_)
  refine rr_iload1 (pc := 0) B dX0_takeWho_0 ?_
  refine rr_bipush (z := 59) (pc := 1) B dX0_takeWho_1 (by decide) ?_
  refine rr_icmp_ne 35 (pc := 3) B dX0_takeWho_3 (by decide) (by omega) (fun b1 => ?_) (fun b1 => ?_)
  · refine rr_iload1 (pc := 35) B dX0_takeWho_35 ?_
    refine rr_bipush (z := 65) (pc := 36) B dX0_takeWho_36 (by decide) ?_
    refine rr_isub (pc := 38) B dX0_takeWho_38 ?_
    refine rr_istore2 (pc := 39) B dX0_takeWho_39 rfl ?_
    refine rr_iload2 (pc := 40) B dX0_takeWho_40 ?_
    refine rr_bipush (z := 7) (pc := 41) B dX0_takeWho_41 (by decide) ?_
    refine rc_NI2 (pc := 43) B dX0_takeWho_43 st_X8_within lk_0_65 (ct_X8_within _ _ _ _  (by omega)) (Nat.le_of_ble_eq_true rfl) (Nat.le_of_ble_eq_true rfl) ?_
    refine rr_if_eqB 65 (pc := 46) B dX0_takeWho_46 (by decide) (fun b2 => ?_) (fun b2 => ?_)
    · replace b2 := of_decide_eq_false b2
      refine rr_iconst (z := 0) (pc := 65) B dX0_takeWho_65 ?_
      refine rr_zreturn (pc := 66) B Br dX0_takeWho_66 (by omega) ⟨congrArg (fun z => some (aI z)) ?_, ?_⟩
      · unfold twB; first | (rw [decide_eq_true (by first | (left; omega) | (right; exact ⟨by omega, by assumption⟩))]; rfl) | (rw [decide_eq_false (by rintro (q | ⟨q1, q2⟩) <;> first | omega | (simp_all; done))]; rfl)
      · unfold twM; first | (rw [if_pos (by omega)]; done) | (rw [if_neg (by omega), if_pos ⟨by omega, by assumption⟩]; done) | (rw [if_neg (by omega), if_neg (by rintro ⟨q1, q2⟩; first | omega | (simp_all; done))]; done)
    · replace b2 := of_decide_eq_true b2
      refine rr_aload0 (pc := 49) B dX0_takeWho_49 ?_
      refine rr_getR (pc := 50) B dX0_takeWho_50 fl_0_24 or_0_4 ?_
      refine rr_aload0 (pc := 53) B dX0_takeWho_53 ?_
      refine rr_getI (pc := 54) B dX0_takeWho_54 fl_0_41 ob_0_8 (fun b3 => ?_)
      refine rr_iaload (pc := 57) B dX0_takeWho_57 sa_14 (by omega) (fun b4 => ?_)
      refine rr_iload2 (pc := 58) B dX0_takeWho_58 ?_
      refine rc_NI2 (pc := 59) B dX0_takeWho_59 st_X8_hasBit lk_0_69 (ct_X8_hasBit _ _ _ _  (by omega) (by omega)) (Nat.le_of_ble_eq_true rfl) (Nat.le_of_ble_eq_true rfl) ?_
      refine rr_if_eqB 67 (pc := 62) B dX0_takeWho_62 (by decide) (fun b5 => ?_) (fun b5 => ?_)
      · refine rr_aload0 (pc := 67) B dX0_takeWho_67 ?_
        refine rr_getR (pc := 68) B dX0_takeWho_68 fl_0_24 or_0_4 ?_
        refine rr_aload0 (pc := 71) B dX0_takeWho_71 ?_
        refine rr_getI (pc := 72) B dX0_takeWho_72 fl_0_41 ob_0_8 (fun b6 => ?_)
        refine rr_dup2 (pc := 75) B dX0_takeWho_75 rfl rfl ?_
        refine rr_iaload (pc := 76) B dX0_takeWho_76 sa_14 (by omega) (fun b7 => ?_)
        refine rr_iconst (z := 1) (pc := 77) B dX0_takeWho_77 ?_
        refine rr_iload2 (pc := 78) B dX0_takeWho_78 ?_
        refine rr_shl1 (pc := 79) B dX0_takeWho_79 (by omega) (fun b8 => ?_)
        refine rr_orN 8 (pc := 80) B dX0_takeWho_80 (by decide) (by have := p2_le (a := b - 65) (b := 7) (by omega); have e : p2 7 = 128 := rfl; omega) (fun b9 => ?_)
        refine rr_iastore (pc := 81) B dX0_takeWho_81 sa_14 (by omega) (by omega) ?_
        refine rr_iconst (z := 1) (pc := 82) B dX0_takeWho_82 ?_
        refine rr_zreturn (pc := 83) B Br dX0_takeWho_83 (by omega) ⟨congrArg (fun z => some (aI z)) ?_, ?_⟩
        · unfold twB; first | (rw [decide_eq_true (by first | (left; omega) | (right; exact ⟨by omega, by assumption⟩))]; rfl) | (rw [decide_eq_false (by rintro (q | ⟨q1, q2⟩) <;> first | omega | (simp_all; done))]; rfl)
        · unfold twM; first | (rw [if_pos (by omega)]; done) | (rw [if_neg (by omega), if_pos ⟨by omega, by assumption⟩]; done) | (rw [if_neg (by omega), if_neg (by rintro ⟨q1, q2⟩; first | omega | (simp_all; done))]; done)
      · refine rr_iconst (z := 0) (pc := 65) B dX0_takeWho_65 ?_
        refine rr_zreturn (pc := 66) B Br dX0_takeWho_66 (by omega) ⟨congrArg (fun z => some (aI z)) ?_, ?_⟩
        · unfold twB; first | (rw [decide_eq_true (by first | (left; omega) | (right; exact ⟨by omega, by assumption⟩))]; rfl) | (rw [decide_eq_false (by rintro (q | ⟨q1, q2⟩) <;> first | omega | (simp_all; done))]; rfl)
        · unfold twM; first | (rw [if_pos (by omega)]; done) | (rw [if_neg (by omega), if_pos ⟨by omega, by assumption⟩]; done) | (rw [if_neg (by omega), if_neg (by rintro ⟨q1, q2⟩; first | omega | (simp_all; done))]; done)
  · refine rr_aload0 (pc := 6) B dX0_takeWho_6 ?_
    refine rr_getR (pc := 7) B dX0_takeWho_7 fl_0_24 or_0_4 ?_
    refine rr_aload0 (pc := 10) B dX0_takeWho_10 ?_
    refine rr_getI (pc := 11) B dX0_takeWho_11 fl_0_41 ob_0_8 (fun b2 => ?_)
    refine rr_iaload (pc := 14) B dX0_takeWho_14 sa_14 (by omega) (fun b3 => ?_)
    refine rr_if_eq 35 (pc := 15) B dX0_takeWho_15 (by decide) (by omega) (fun b4 => ?_) (fun b4 => ?_)
    · refine rr_iload1 (pc := 35) B dX0_takeWho_35 ?_
      refine rr_bipush (z := 65) (pc := 36) B dX0_takeWho_36 (by decide) ?_
      refine rr_isub (pc := 38) B dX0_takeWho_38 ?_
      refine rr_istore2 (pc := 39) B dX0_takeWho_39 rfl ?_
      refine rr_iload2 (pc := 40) B dX0_takeWho_40 ?_
      refine rr_bipush (z := 7) (pc := 41) B dX0_takeWho_41 (by decide) ?_
      refine rc_NI2 (pc := 43) B dX0_takeWho_43 st_X8_within lk_0_65 (ct_X8_within _ _ _ _  (by omega)) (Nat.le_of_ble_eq_true rfl) (Nat.le_of_ble_eq_true rfl) ?_
      refine rr_if_eqB 65 (pc := 46) B dX0_takeWho_46 (by decide) (fun b5 => ?_) (fun b5 => ?_)
      · replace b5 := of_decide_eq_false b5
        refine rr_iconst (z := 0) (pc := 65) B dX0_takeWho_65 ?_
        refine rr_zreturn (pc := 66) B Br dX0_takeWho_66 (by omega) ⟨congrArg (fun z => some (aI z)) ?_, ?_⟩
        · unfold twB; first | (rw [decide_eq_true (by first | (left; omega) | (right; exact ⟨by omega, by assumption⟩))]; rfl) | (rw [decide_eq_false (by rintro (q | ⟨q1, q2⟩) <;> first | omega | (simp_all; done))]; rfl)
        · unfold twM; first | (rw [if_pos (by omega)]; done) | (rw [if_neg (by omega), if_pos ⟨by omega, by assumption⟩]; done) | (rw [if_neg (by omega), if_neg (by rintro ⟨q1, q2⟩; first | omega | (simp_all; done))]; done)
      · replace b5 := of_decide_eq_true b5
        refine rr_aload0 (pc := 49) B dX0_takeWho_49 ?_
        refine rr_getR (pc := 50) B dX0_takeWho_50 fl_0_24 or_0_4 ?_
        refine rr_aload0 (pc := 53) B dX0_takeWho_53 ?_
        refine rr_getI (pc := 54) B dX0_takeWho_54 fl_0_41 ob_0_8 (fun b6 => ?_)
        refine rr_iaload (pc := 57) B dX0_takeWho_57 sa_14 (by omega) (fun b7 => ?_)
        refine rr_iload2 (pc := 58) B dX0_takeWho_58 ?_
        refine rc_NI2 (pc := 59) B dX0_takeWho_59 st_X8_hasBit lk_0_69 (ct_X8_hasBit _ _ _ _  (by omega) (by omega)) (Nat.le_of_ble_eq_true rfl) (Nat.le_of_ble_eq_true rfl) ?_
        refine rr_if_eqB 67 (pc := 62) B dX0_takeWho_62 (by decide) (fun b8 => ?_) (fun b8 => ?_)
        · refine rr_aload0 (pc := 67) B dX0_takeWho_67 ?_
          refine rr_getR (pc := 68) B dX0_takeWho_68 fl_0_24 or_0_4 ?_
          refine rr_aload0 (pc := 71) B dX0_takeWho_71 ?_
          refine rr_getI (pc := 72) B dX0_takeWho_72 fl_0_41 ob_0_8 (fun b9 => ?_)
          refine rr_dup2 (pc := 75) B dX0_takeWho_75 rfl rfl ?_
          refine rr_iaload (pc := 76) B dX0_takeWho_76 sa_14 (by omega) (fun b10 => ?_)
          refine rr_iconst (z := 1) (pc := 77) B dX0_takeWho_77 ?_
          refine rr_iload2 (pc := 78) B dX0_takeWho_78 ?_
          refine rr_shl1 (pc := 79) B dX0_takeWho_79 (by omega) (fun b11 => ?_)
          refine rr_orN 8 (pc := 80) B dX0_takeWho_80 (by decide) (by have := p2_le (a := b - 65) (b := 7) (by omega); have e : p2 7 = 128 := rfl; omega) (fun b12 => ?_)
          refine rr_iastore (pc := 81) B dX0_takeWho_81 sa_14 (by omega) (by omega) ?_
          refine rr_iconst (z := 1) (pc := 82) B dX0_takeWho_82 ?_
          refine rr_zreturn (pc := 83) B Br dX0_takeWho_83 (by omega) ⟨congrArg (fun z => some (aI z)) ?_, ?_⟩
          · unfold twB; first | (rw [decide_eq_true (by first | (left; omega) | (right; exact ⟨by omega, by assumption⟩))]; rfl) | (rw [decide_eq_false (by rintro (q | ⟨q1, q2⟩) <;> first | omega | (simp_all; done))]; rfl)
          · unfold twM; first | (rw [if_pos (by omega)]; done) | (rw [if_neg (by omega), if_pos ⟨by omega, by assumption⟩]; done) | (rw [if_neg (by omega), if_neg (by rintro ⟨q1, q2⟩; first | omega | (simp_all; done))]; done)
        · refine rr_iconst (z := 0) (pc := 65) B dX0_takeWho_65 ?_
          refine rr_zreturn (pc := 66) B Br dX0_takeWho_66 (by omega) ⟨congrArg (fun z => some (aI z)) ?_, ?_⟩
          · unfold twB; first | (rw [decide_eq_true (by first | (left; omega) | (right; exact ⟨by omega, by assumption⟩))]; rfl) | (rw [decide_eq_false (by rintro (q | ⟨q1, q2⟩) <;> first | omega | (simp_all; done))]; rfl)
          · unfold twM; first | (rw [if_pos (by omega)]; done) | (rw [if_neg (by omega), if_pos ⟨by omega, by assumption⟩]; done) | (rw [if_neg (by omega), if_neg (by rintro ⟨q1, q2⟩; first | omega | (simp_all; done))]; done)
    · refine rr_aload0 (pc := 18) B dX0_takeWho_18 ?_
      refine rr_dup (pc := 19) B dX0_takeWho_19 rfl ?_
      refine rr_getI (pc := 20) B dX0_takeWho_20 fl_0_41 ob_0_8 (fun b5 => ?_)
      refine rr_iconst (z := 1) (pc := 23) B dX0_takeWho_23 ?_
      refine rr_iadd (pc := 24) B dX0_takeWho_24 ?_
      refine rr_putI (pc := 25) B dX0_takeWho_25 fl_0_41 ob_0_8 fi_0_8 (by omega) ?_
      refine rr_aload0 (pc := 28) B dX0_takeWho_28 ?_
      refine rr_iconst (z := 0) (pc := 29) B dX0_takeWho_29 ?_
      refine rr_putI (pc := 30) B dX0_takeWho_30 fl_0_44 ob_0_9 fi_0_9 (by omega) ?_
      refine rr_iconst (z := 1) (pc := 33) B dX0_takeWho_33 ?_
      refine rr_zreturn (pc := 34) B Br dX0_takeWho_34 (by omega) ⟨congrArg (fun z => some (aI z)) ?_, ?_⟩
      · unfold twB; first | (rw [decide_eq_true (by first | (left; omega) | (right; exact ⟨by omega, by assumption⟩))]; rfl) | (rw [decide_eq_false (by rintro (q | ⟨q1, q2⟩) <;> first | omega | (simp_all; done))]; rfl)
      · unfold twM; first | (rw [if_pos (by omega)]; done) | (rw [if_neg (by omega), if_pos ⟨by omega, by assumption⟩]; done) | (rw [if_neg (by omega), if_neg (by rintro ⟨q1, q2⟩; first | omega | (simp_all; done))]; done)
set_option maxHeartbeats 4000000 in
set_option maxRecDepth 100000 in
theorem ct_X0_goesOn (g : ax_G) (M : ax_M) (b : Int) (H0 : 0 ≤ b ∧ b ≤ 255) : CT g md_X0_goesOn 2 [aR 0, aI b] M (pI (bi (goB M b)) (goM M b)) := by
  refine ct_intro 0 rfl rfl ?_
  intro X hg B Br
  subst hg
  show AW X 0 [some (aR 0), some (aI b)] [] M
  refine rr_rg (fun G0 => ?_)
  refine rr_aload0 (pc := 0) B dX0_goesOn_0 ?_
  refine rr_getI (pc := 1) B dX0_goesOn_1 fl_0_41 ob_0_8 (fun b1 => ?_)
  refine rr_bipush (z := 8) (pc := 4) B dX0_goesOn_4 (by decide) ?_
  refine rr_icmp_lt 11 (pc := 6) B dX0_goesOn_6 (by decide) (by omega) (fun b2 => ?_) (fun b2 => ?_)
  · refine rr_aload0 (pc := 11) B dX0_goesOn_11 ?_
    refine rr_getI (pc := 12) B dX0_goesOn_12 fl_0_44 ob_0_9 (fun b3 => ?_)
    rcases (show M 0 9 = 0 ∨ M 0 9 = 1 ∨ M 0 9 = 2 ∨ M 0 9 = 3 ∨ (M 0 9 < 0 ∨ 3 < M 0 9) by omega) with b4 | b4 | b4 | b4 | b4
    · refine rr_tabAt 0 44 (pc := 15) B dX0_goesOn_15 b4 (by decide) rfl (by decide) ?_
      refine rr_aload0 (pc := 44) B dX0_goesOn_44 ?_
      refine rr_getR (pc := 45) B dX0_goesOn_45 fl_0_24 or_0_4 ?_
      refine rr_aload0 (pc := 48) B dX0_goesOn_48 ?_
      refine rr_getI (pc := 49) B dX0_goesOn_49 fl_0_41 ob_0_8 (fun b5 => ?_)
      refine rr_iconst (z := 0) (pc := 52) B dX0_goesOn_52 ?_
      refine rr_iastore (pc := 53) B dX0_goesOn_53 sa_14 (by omega) (by omega) ?_
      refine rr_aload0 (pc := 54) B dX0_goesOn_54 ?_
      refine rr_aload0 (pc := 55) B dX0_goesOn_55 ?_
      refine rr_getR (pc := 56) B dX0_goesOn_56 fl_0_9 or_0_0 ?_
      refine rr_iload1 (pc := 59) B dX0_goesOn_59 ?_
      refine rc_NI1 (pc := 60) B dX0_goesOn_60 st_X8_kindOf lk_0_50 (ct_X8_kindOf _ _ _  (by omega)) (Nat.le_of_ble_eq_true rfl) (Nat.le_of_ble_eq_true rfl) ?_
      refine rc_VI2 (pc := 63) B dX0_goesOn_63 vm_X0_takeInto lk_0_54 so_0 rfl (ct_X0_takeInto _ _ _ _ _ _ (sa_10) (by decide) (by have := kV_r b; omega) (by rw [ms_0 _ _ _ _ (by decide)]; omega) (by rw [ms_0 _ _ _ _ (by decide)]; omega) (by have := kV_r b; omega)) (Nat.le_of_ble_eq_true rfl) (Nat.le_of_ble_eq_true rfl) ?_
      refine rr_zreturn (pc := 66) B Br dX0_goesOn_66 (bi_01 _) ⟨congrArg (fun z => some (aI z)) ?_, ?_⟩
      · unfold goB; repeat (first | rw [if_pos (by omega)] | rw [if_neg (by omega)])
      · unfold goM; repeat (first | rw [if_pos (by omega)] | rw [if_neg (by omega)])
    · refine rr_tabAt 1 67 (pc := 15) B dX0_goesOn_15 b4 (by decide) rfl (by decide) ?_
      refine rr_aload0 (pc := 67) B dX0_goesOn_67 ?_
      refine rr_aload0 (pc := 68) B dX0_goesOn_68 ?_
      refine rr_getR (pc := 69) B dX0_goesOn_69 fl_0_15 or_0_1 ?_
      refine rr_iload1 (pc := 72) B dX0_goesOn_72 ?_
      refine rr_iconst (z := 0) (pc := 73) B dX0_goesOn_73 ?_
      refine rr_iconst (z := 5) (pc := 74) B dX0_goesOn_74 ?_
      refine rc_NI3 (pc := 75) B dX0_goesOn_75 st_X8_figureOf lk_0_58 (ct_X8_figureOf _ _ _ _ _  (by omega) (by omega)) (Nat.le_of_ble_eq_true rfl) (Nat.le_of_ble_eq_true rfl) ?_
      refine rc_VI2 (pc := 78) B dX0_goesOn_78 vm_X0_takeInto lk_0_54 so_0 rfl (ct_X0_takeInto _ _ _ _ _ _ (sa_11) (by decide) (by exact fgV_r) (by omega) (by omega) (by have := fgV_r (b := b) (lo := 0) (up := 5); omega)) (Nat.le_of_ble_eq_true rfl) (Nat.le_of_ble_eq_true rfl) ?_
      refine rr_zreturn (pc := 81) B Br dX0_goesOn_81 (bi_01 _) ⟨congrArg (fun z => some (aI z)) ?_, ?_⟩
      · unfold goB; repeat (first | rw [if_pos (by omega)] | rw [if_neg (by omega)])
      · unfold goM; repeat (first | rw [if_pos (by omega)] | rw [if_neg (by omega)])
    · refine rr_tabAt 2 82 (pc := 15) B dX0_goesOn_15 b4 (by decide) rfl (by decide) ?_
      refine rr_aload0 (pc := 82) B dX0_goesOn_82 ?_
      refine rr_aload0 (pc := 83) B dX0_goesOn_83 ?_
      refine rr_getR (pc := 84) B dX0_goesOn_84 fl_0_18 or_0_2 ?_
      refine rr_iload1 (pc := 87) B dX0_goesOn_87 ?_
      refine rr_bipush (z := 114) (pc := 88) B dX0_goesOn_88 (by decide) ?_
      refine rr_icmp_ne 97 (pc := 90) B dX0_goesOn_90 (by decide) (by omega) (fun b5 => ?_) (fun b5 => ?_)
      · refine rr_iload1 (pc := 97) B dX0_goesOn_97 ?_
        refine rr_bipush (z := 100) (pc := 98) B dX0_goesOn_98 (by decide) ?_
        refine rr_icmp_ne 107 (pc := 100) B dX0_goesOn_100 (by decide) (by omega) (fun b6 => ?_) (fun b6 => ?_)
        · refine rr_iconst (z := (-1)) (pc := 107) B dX0_goesOn_107 ?_
          refine rc_VI2 (pc := 108) B dX0_goesOn_108 vm_X0_takeInto lk_0_54 so_0 rfl (ct_X0_takeInto _ _ _ _ _ _ (sa_12) (by decide) (by omega) (by omega) (by omega) (by omega)) (Nat.le_of_ble_eq_true rfl) (Nat.le_of_ble_eq_true rfl) ?_
          refine rr_zreturn (pc := 111) B Br dX0_goesOn_111 (bi_01 _) ⟨congrArg (fun z => some (aI z)) ?_, ?_⟩
          · unfold goB wtV; repeat (first | rw [if_pos (by omega)] | rw [if_neg (by omega)])
          · unfold goM wtV; repeat (first | rw [if_pos (by omega)] | rw [if_neg (by omega)])
        · refine rr_iconst (z := 0) (pc := 103) B dX0_goesOn_103 ?_
          refine rr_goto 108 (pc := 104) B dX0_goesOn_104 (by decide) ?_
          refine rc_VI2 (pc := 108) B dX0_goesOn_108 vm_X0_takeInto lk_0_54 so_0 rfl (ct_X0_takeInto _ _ _ _ _ _ (sa_12) (by decide) (by omega) (by omega) (by omega) (by omega)) (Nat.le_of_ble_eq_true rfl) (Nat.le_of_ble_eq_true rfl) ?_
          refine rr_zreturn (pc := 111) B Br dX0_goesOn_111 (bi_01 _) ⟨congrArg (fun z => some (aI z)) ?_, ?_⟩
          · unfold goB wtV; repeat (first | rw [if_pos (by omega)] | rw [if_neg (by omega)])
          · unfold goM wtV; repeat (first | rw [if_pos (by omega)] | rw [if_neg (by omega)])
      · refine rr_iconst (z := 1) (pc := 93) B dX0_goesOn_93 ?_
        refine rr_goto 108 (pc := 94) B dX0_goesOn_94 (by decide) ?_
        refine rc_VI2 (pc := 108) B dX0_goesOn_108 vm_X0_takeInto lk_0_54 so_0 rfl (ct_X0_takeInto _ _ _ _ _ _ (sa_12) (by decide) (by omega) (by omega) (by omega) (by omega)) (Nat.le_of_ble_eq_true rfl) (Nat.le_of_ble_eq_true rfl) ?_
        refine rr_zreturn (pc := 111) B Br dX0_goesOn_111 (bi_01 _) ⟨congrArg (fun z => some (aI z)) ?_, ?_⟩
        · unfold goB wtV; repeat (first | rw [if_pos (by omega)] | rw [if_neg (by omega)])
        · unfold goM wtV; repeat (first | rw [if_pos (by omega)] | rw [if_neg (by omega)])
    · refine rr_tabAt 3 112 (pc := 15) B dX0_goesOn_15 b4 (by decide) rfl (by decide) ?_
      refine rr_aload0 (pc := 112) B dX0_goesOn_112 ?_
      refine rr_aload0 (pc := 113) B dX0_goesOn_113 ?_
      refine rr_getR (pc := 114) B dX0_goesOn_114 fl_0_21 or_0_3 ?_
      refine rr_iload1 (pc := 117) B dX0_goesOn_117 ?_
      refine rr_iconst (z := 1) (pc := 118) B dX0_goesOn_118 ?_
      refine rr_bipush (z := 9) (pc := 119) B dX0_goesOn_119 (by decide) ?_
      refine rc_NI3 (pc := 121) B dX0_goesOn_121 st_X8_figureOf lk_0_58 (ct_X8_figureOf _ _ _ _ _  (by omega) (by omega)) (Nat.le_of_ble_eq_true rfl) (Nat.le_of_ble_eq_true rfl) ?_
      refine rc_VI2 (pc := 124) B dX0_goesOn_124 vm_X0_takeInto lk_0_54 so_0 rfl (ct_X0_takeInto _ _ _ _ _ _ (sa_13) (by decide) (by have := fgV_r (b := b) (lo := 1) (up := 9); omega) (by omega) (by omega) (by have := fgV_r (b := b) (lo := 1) (up := 9); omega)) (Nat.le_of_ble_eq_true rfl) (Nat.le_of_ble_eq_true rfl) ?_
      refine rr_zreturn (pc := 127) B Br dX0_goesOn_127 (bi_01 _) ⟨congrArg (fun z => some (aI z)) ?_, ?_⟩
      · unfold goB; repeat (first | rw [if_pos (by omega)] | rw [if_neg (by omega)])
      · unfold goM; repeat (first | rw [if_pos (by omega)] | rw [if_neg (by omega)])
    · refine rr_tabOut 128 (pc := 15) B dX0_goesOn_15 (by omega) b4 (by decide) ?_
      refine rr_aload0 (pc := 128) B dX0_goesOn_128 ?_
      refine rr_iload1 (pc := 129) B dX0_goesOn_129 ?_
      refine rc_VI1 (pc := 130) B dX0_goesOn_130 vm_X0_takeWho lk_0_62 so_0 rfl (ct_X0_takeWho _ _ _  (by omega) (by omega)) (Nat.le_of_ble_eq_true rfl) (Nat.le_of_ble_eq_true rfl) ?_
      refine rr_zreturn (pc := 133) B Br dX0_goesOn_133 (bi_01 _) ⟨congrArg (fun z => some (aI z)) ?_, ?_⟩
      · unfold goB; repeat (first | rw [if_pos (by omega)] | rw [if_neg (by omega)])
      · unfold goM; repeat (first | rw [if_pos (by omega)] | rw [if_neg (by omega)])
  · refine rr_iconst (z := 0) (pc := 9) B dX0_goesOn_9 ?_
    refine rr_zreturn (pc := 10) B Br dX0_goesOn_10 (by omega) ⟨congrArg (fun z => some (aI z)) ?_, ?_⟩
    · unfold goB; rw [if_pos (by omega)]; rfl
    · unfold goM; rw [if_pos (by omega)]
theorem goM_5 (M : ax_M) (b : Int) : goM M b 0 5 = M 0 5 := by
  unfold goM tiM twM
  repeat (first | rfl | split)
theorem tk1_5 (M : ax_M) (b : Int) : tk1 M b 0 5 = M 0 5 := by
  unfold tk1
  split
  · split
    · exact goM_5 M b
    · exact goM_5 M b
  · rfl
set_option maxHeartbeats 4000000 in
set_option maxRecDepth 100000 in
theorem ct_X0_take (g : ax_G) (M : ax_M) (b : Int) (H0 : 0 ≤ b ∧ b ≤ 255) (H1 : M 0 5 < 80) : CT g md_X0_take 3 [aR 0, aI b] M (pI (tkD M b 0 5) (tkD M b)) := by
  refine ct_intro 1 rfl rfl ?_
  intro X hg B Br
  subst hg
  show AW X 0 [some (aR 0), some (aI b), none] [] M
  refine rr_rg (fun G0 => ?_)
  have L : ∀ n : Nat, (∀ (M1 : ax_M), (M1 = tk1 M b) → (2) < n → AW X 24 [some (aR 0), some (aI b), none] [] M1) ∧ (∀ (M2 : ax_M), (M2 = fi2 (tk1 M b)) → (1) < n → AW X 34 [some (aR 0), some (aI b), none] [] M2) ∧ (∀ (M2 : ax_M) (w : Option ax_V) (V : Int), (M2 = fi2 (tk1 M b)) → (V = if M2 0 10 ≠ -1 ∨ M2 0 8 < 8 ∧ M2 0 9 = 4 ∧ M2 14 (M2 0 8) ≠ 0 then M2 0 10 else M2 0 5) → (V = -1 → M2 0 8 < 8) → (-1 ≤ V ∧ V ≤ 80) → (0) < n → AW X 93 [some (aR 0), some (aI b), w] [aI V, aR 0] M2) ∧ True := by
    intro n
    induction n with
    | zero => exact ⟨by intros; omega, by intros; omega, by intros; omega, trivial⟩
    | succ n ih =>
      refine ⟨?_, ?_, ?_, trivial⟩
      · intro M1 K0 hm
        refine rr_rg (fun G1 => ?_)
        have E5 : M1 0 5 = M 0 5 := by rw [K0]; exact tk1_5 M b
        refine rr_aload0 (pc := 24) B dX0_take_24 ?_
        refine rr_dup (pc := 25) B dX0_take_25 rfl ?_
        refine rr_getI (pc := 26) B dX0_take_26 fl_0_38 ob_0_5 (fun b1 => ?_)
        refine rr_iconst (z := 1) (pc := 29) B dX0_take_29 ?_
        refine rr_iadd (pc := 30) B dX0_take_30 ?_
        refine rr_putI (pc := 31) B dX0_take_31 fl_0_38 ob_0_5 fi_0_5 (by omega) ?_
        refine ih.2.1 _ ?_ ?_
        · rw [← K0]; rfl
        · omega
      · intro M2 K0 hm
        refine rr_rg (fun G1 => ?_)
        refine rr_aload0 (pc := 34) B dX0_take_34 ?_
        refine rr_getI (pc := 35) B dX0_take_35 fl_0_41 ob_0_8 (fun b1 => ?_)
        refine rr_bipush (z := 8) (pc := 38) B dX0_take_38 (by decide) ?_
        refine rr_icmp_ge 67 (pc := 40) B dX0_take_40 (by decide) (by omega) (fun b2 => ?_) (fun b2 => ?_)
        · refine rr_iconst (z := 0) (pc := 67) B dX0_take_67 ?_
          refine rr_istore2 (pc := 68) B dX0_take_68 rfl ?_
          refine rr_aload0 (pc := 69) B dX0_take_69 ?_
          refine rr_aload0 (pc := 70) B dX0_take_70 ?_
          refine rr_getI (pc := 71) B dX0_take_71 fl_0_31 ob_0_10 (fun b3 => ?_)
          refine rr_iconst (z := (-1)) (pc := 74) B dX0_take_74 ?_
          refine rr_icmp_ne 82 (pc := 75) B dX0_take_75 (by decide) (by omega) (fun b4 => ?_) (fun b4 => ?_)
          · refine rr_aload0 (pc := 82) B dX0_take_82 ?_
            refine rr_getI (pc := 83) B dX0_take_83 fl_0_31 ob_0_10 (fun b5 => ?_)
            refine rr_goto 93 (pc := 86) B dX0_take_86 (by decide) ?_
            refine ih.2.2.1 _ _ _ ?_ ?_ ?_ ?_ ?_
            · exact K0
            · first | exact (if_pos (by omega)).symm | exact (if_neg (by omega)).symm
            · omega
            · omega
            · omega
          · refine rr_iload2 (pc := 78) B dX0_take_78 ?_
            refine rr_if_eq 89 (pc := 79) B dX0_take_79 (by decide) (by omega) (fun b5 => ?_) (fun b5 => absurd b5 (by omega))
            refine rr_aload0 (pc := 89) B dX0_take_89 ?_
            refine rr_getI (pc := 90) B dX0_take_90 fl_0_38 ob_0_5 (fun b6 => ?_)
            refine ih.2.2.1 _ _ _ ?_ ?_ ?_ ?_ ?_
            · exact K0
            · first | exact (if_pos (by omega)).symm | exact (if_neg (by omega)).symm
            · omega
            · omega
            · omega
        · refine rr_aload0 (pc := 43) B dX0_take_43 ?_
          refine rr_getI (pc := 44) B dX0_take_44 fl_0_44 ob_0_9 (fun b3 => ?_)
          refine rr_iconst (z := 4) (pc := 47) B dX0_take_47 ?_
          refine rr_icmp_ne 67 (pc := 48) B dX0_take_48 (by decide) (by omega) (fun b4 => ?_) (fun b4 => ?_)
          · refine rr_iconst (z := 0) (pc := 67) B dX0_take_67 ?_
            refine rr_istore2 (pc := 68) B dX0_take_68 rfl ?_
            refine rr_aload0 (pc := 69) B dX0_take_69 ?_
            refine rr_aload0 (pc := 70) B dX0_take_70 ?_
            refine rr_getI (pc := 71) B dX0_take_71 fl_0_31 ob_0_10 (fun b5 => ?_)
            refine rr_iconst (z := (-1)) (pc := 74) B dX0_take_74 ?_
            refine rr_icmp_ne 82 (pc := 75) B dX0_take_75 (by decide) (by omega) (fun b6 => ?_) (fun b6 => ?_)
            · refine rr_aload0 (pc := 82) B dX0_take_82 ?_
              refine rr_getI (pc := 83) B dX0_take_83 fl_0_31 ob_0_10 (fun b7 => ?_)
              refine rr_goto 93 (pc := 86) B dX0_take_86 (by decide) ?_
              refine ih.2.2.1 _ _ _ ?_ ?_ ?_ ?_ ?_
              · exact K0
              · first | exact (if_pos (by omega)).symm | exact (if_neg (by omega)).symm
              · omega
              · omega
              · omega
            · refine rr_iload2 (pc := 78) B dX0_take_78 ?_
              refine rr_if_eq 89 (pc := 79) B dX0_take_79 (by decide) (by omega) (fun b7 => ?_) (fun b7 => absurd b7 (by omega))
              refine rr_aload0 (pc := 89) B dX0_take_89 ?_
              refine rr_getI (pc := 90) B dX0_take_90 fl_0_38 ob_0_5 (fun b8 => ?_)
              refine ih.2.2.1 _ _ _ ?_ ?_ ?_ ?_ ?_
              · exact K0
              · first | exact (if_pos (by omega)).symm | exact (if_neg (by omega)).symm
              · omega
              · omega
              · omega
          · refine rr_aload0 (pc := 51) B dX0_take_51 ?_
            refine rr_getR (pc := 52) B dX0_take_52 fl_0_24 or_0_4 ?_
            refine rr_aload0 (pc := 55) B dX0_take_55 ?_
            refine rr_getI (pc := 56) B dX0_take_56 fl_0_41 ob_0_8 (fun b5 => ?_)
            refine rr_iaload (pc := 59) B dX0_take_59 sa_14 (by omega) (fun b6 => ?_)
            refine rr_if_eq 67 (pc := 60) B dX0_take_60 (by decide) (by omega) (fun b7 => ?_) (fun b7 => ?_)
            · refine rr_iconst (z := 0) (pc := 67) B dX0_take_67 ?_
              refine rr_istore2 (pc := 68) B dX0_take_68 rfl ?_
              refine rr_aload0 (pc := 69) B dX0_take_69 ?_
              refine rr_aload0 (pc := 70) B dX0_take_70 ?_
              refine rr_getI (pc := 71) B dX0_take_71 fl_0_31 ob_0_10 (fun b8 => ?_)
              refine rr_iconst (z := (-1)) (pc := 74) B dX0_take_74 ?_
              refine rr_icmp_ne 82 (pc := 75) B dX0_take_75 (by decide) (by omega) (fun b9 => ?_) (fun b9 => ?_)
              · refine rr_aload0 (pc := 82) B dX0_take_82 ?_
                refine rr_getI (pc := 83) B dX0_take_83 fl_0_31 ob_0_10 (fun b10 => ?_)
                refine rr_goto 93 (pc := 86) B dX0_take_86 (by decide) ?_
                refine ih.2.2.1 _ _ _ ?_ ?_ ?_ ?_ ?_
                · exact K0
                · first | exact (if_pos (by omega)).symm | exact (if_neg (by omega)).symm
                · omega
                · omega
                · omega
              · refine rr_iload2 (pc := 78) B dX0_take_78 ?_
                refine rr_if_eq 89 (pc := 79) B dX0_take_79 (by decide) (by omega) (fun b10 => ?_) (fun b10 => absurd b10 (by omega))
                refine rr_aload0 (pc := 89) B dX0_take_89 ?_
                refine rr_getI (pc := 90) B dX0_take_90 fl_0_38 ob_0_5 (fun b11 => ?_)
                refine ih.2.2.1 _ _ _ ?_ ?_ ?_ ?_ ?_
                · exact K0
                · first | exact (if_pos (by omega)).symm | exact (if_neg (by omega)).symm
                · omega
                · omega
                · omega
            · refine rr_iconst (z := 1) (pc := 63) B dX0_take_63 ?_
              refine rr_goto 68 (pc := 64) B dX0_take_64 (by decide) ?_
              refine rr_istore2 (pc := 68) B dX0_take_68 rfl ?_
              refine rr_aload0 (pc := 69) B dX0_take_69 ?_
              refine rr_aload0 (pc := 70) B dX0_take_70 ?_
              refine rr_getI (pc := 71) B dX0_take_71 fl_0_31 ob_0_10 (fun b8 => ?_)
              refine rr_iconst (z := (-1)) (pc := 74) B dX0_take_74 ?_
              refine rr_icmp_ne 82 (pc := 75) B dX0_take_75 (by decide) (by omega) (fun b9 => ?_) (fun b9 => ?_)
              · refine rr_aload0 (pc := 82) B dX0_take_82 ?_
                refine rr_getI (pc := 83) B dX0_take_83 fl_0_31 ob_0_10 (fun b10 => ?_)
                refine rr_goto 93 (pc := 86) B dX0_take_86 (by decide) ?_
                refine ih.2.2.1 _ _ _ ?_ ?_ ?_ ?_ ?_
                · exact K0
                · first | exact (if_pos (by omega)).symm | exact (if_neg (by omega)).symm
                · omega
                · omega
                · omega
              · refine rr_iload2 (pc := 78) B dX0_take_78 ?_
                refine rr_if_eq 89 (pc := 79) B dX0_take_79 (by decide) (by omega) (fun b10 => absurd b10 (by omega)) (fun b10 => ?_)
                refine rr_aload0 (pc := 82) B dX0_take_82 ?_
                refine rr_getI (pc := 83) B dX0_take_83 fl_0_31 ob_0_10 (fun b11 => ?_)
                refine rr_goto 93 (pc := 86) B dX0_take_86 (by decide) ?_
                refine ih.2.2.1 _ _ _ ?_ ?_ ?_ ?_ ?_
                · exact K0
                · first | exact (if_pos (by omega)).symm | exact (if_neg (by omega)).symm
                · omega
                · omega
                · omega
      · intro M2 w V K0 K1 K2 K3 hm
        refine rr_rg (fun G1 => ?_)
        refine rr_putI (pc := 93) B dX0_take_93 fl_0_27 ob_0_7 fi_0_7 (by omega) ?_
        refine rr_aload0 (pc := 96) B dX0_take_96 ?_
        refine rr_aload0 (pc := 97) B dX0_take_97 ?_
        refine rr_getI (pc := 98) B dX0_take_98 fl_0_27 ob_0_7 (fun b1 => ?_)
        refine rr_iconst (z := (-1)) (pc := 101) B dX0_take_101 ?_
        refine rr_icmp_ne 114 (pc := 102) B dX0_take_102 (by decide) (by omega) (fun b2 => ?_) (fun b2 => ?_)
        · refine rr_iconst (z := 0) (pc := 114) B dX0_take_114 ?_
          refine rr_putI (pc := 115) B dX0_take_115 fl_0_47 ob_0_6 fi_0_6 (by have e7 : ms M2 0 7 V 0 7 = V := rfl; have e8 : ms M2 0 7 V 0 8 = M2 0 8 := rfl; omega) ?_
          refine rr_aload0 (pc := 118) B dX0_take_118 ?_
          refine rr_getI (pc := 119) B dX0_take_119 fl_0_38 ob_0_5 (fun b3 => ?_)
          refine rr_ireturn (pc := 122) B Br dX0_take_122 ⟨congrArg (fun z => some (aI z)) ?_, ?_⟩
          · unfold tkD; rw [← K0]; unfold fi4 fi3; rw [← K1]; rfl
          · unfold tkD; rw [← K0]; unfold fi4 fi3; rw [← K1]; first | rw [if_pos (by omega)] | rw [if_neg (by omega)]
        · refine rr_aload0 (pc := 105) B dX0_take_105 ?_
          refine rr_getI (pc := 106) B dX0_take_106 fl_0_41 ob_0_8 (fun b3 => ?_)
          refine rr_iconst (z := 1) (pc := 109) B dX0_take_109 ?_
          refine rr_iadd (pc := 110) B dX0_take_110 ?_
          refine rr_goto 115 (pc := 111) B dX0_take_111 (by decide) ?_
          refine rr_putI (pc := 115) B dX0_take_115 fl_0_47 ob_0_6 fi_0_6 (by have e7 : ms M2 0 7 V 0 7 = V := rfl; have e8 : ms M2 0 7 V 0 8 = M2 0 8 := rfl; omega) ?_
          refine rr_aload0 (pc := 118) B dX0_take_118 ?_
          refine rr_getI (pc := 119) B dX0_take_119 fl_0_38 ob_0_5 (fun b4 => ?_)
          refine rr_ireturn (pc := 122) B Br dX0_take_122 ⟨congrArg (fun z => some (aI z)) ?_, ?_⟩
          · unfold tkD; rw [← K0]; unfold fi4 fi3; rw [← K1]; rfl
          · unfold tkD; rw [← K0]; unfold fi4 fi3; rw [← K1]; first | rw [if_pos (by omega)] | rw [if_neg (by omega)]
  refine rr_aload0 (pc := 0) B dX0_take_0 ?_
  refine rr_getI (pc := 1) B dX0_take_1 fl_0_31 ob_0_10 (fun b1 => ?_)
  refine rr_iconst (z := (-1)) (pc := 4) B dX0_take_4 ?_
  refine rr_icmp_ne 24 (pc := 5) B dX0_take_5 (by decide) (by omega) (fun b2 => ?_) (fun b2 => ?_)
  · refine (L _).1 _ ?_ (Nat.lt_succ_self _)
    · unfold tk1; rw [if_neg (by omega)]
  · refine rr_aload0 (pc := 8) B dX0_take_8 ?_
    refine rr_iload1 (pc := 9) B dX0_take_9 ?_
    refine rc_VI1 (pc := 10) B dX0_take_10 vm_X0_goesOn lk_0_34 so_0 rfl (ct_X0_goesOn _ _ _  (by omega)) (Nat.le_of_ble_eq_true rfl) (Nat.le_of_ble_eq_true rfl) ?_
    refine rr_if_neB 24 (pc := 13) B dX0_take_13 (by decide) (fun b3 => ?_) (fun b3 => ?_)
    · refine (L _).1 _ ?_ (Nat.lt_succ_self _)
      · unfold tk1; rw [if_pos (by omega), if_pos (by assumption)]
    · refine rr_aload0 (pc := 16) B dX0_take_16 ?_
      refine rr_aload0 (pc := 17) B dX0_take_17 ?_
      refine rr_getI (pc := 18) B dX0_take_18 fl_0_38 ob_0_5 (fun b4 => ?_)
      refine rr_putI (pc := 21) B dX0_take_21 fl_0_31 ob_0_10 fi_0_10 (by rw [goM_5]; rw [goM_5] at b4; omega) ?_
      refine (L _).1 _ ?_ (Nat.lt_succ_self _)
      · unfold tk1; rw [if_pos (by omega), if_neg (by simp_all)]
set_option maxHeartbeats 4000000 in
set_option maxRecDepth 100000 in
theorem ct_X0_clear (g : ax_G) (M : ax_M) : CT g md_X0_clear 0 [aR 0] M (pI (M 0 5) (clD M)) := by
  refine ct_intro 1 rfl rfl ?_
  intro X hg B Br
  subst hg
  show AW X 0 [some (aR 0), none] [] M
  refine rr_rg (fun G0 => ?_)
  refine rr_aload0 (pc := 0) B dX0_clear_0 ?_
  refine rr_getI (pc := 1) B dX0_clear_1 fl_0_38 ob_0_5 (fun b1 => ?_)
  refine rr_istore1 (pc := 4) B dX0_clear_4 rfl ?_
  refine rr_aload0 (pc := 5) B dX0_clear_5 ?_
  refine rr_iconst (z := 0) (pc := 6) B dX0_clear_6 ?_
  refine rr_putI (pc := 7) B dX0_clear_7 fl_0_38 ob_0_5 fi_0_5 (by omega) ?_
  refine rr_aload0 (pc := 10) B dX0_clear_10 ?_
  refine rr_iconst (z := 0) (pc := 11) B dX0_clear_11 ?_
  refine rr_putI (pc := 12) B dX0_clear_12 fl_0_47 ob_0_6 fi_0_6 (by omega) ?_
  refine rr_aload0 (pc := 15) B dX0_clear_15 ?_
  refine rr_iconst (z := (-1)) (pc := 16) B dX0_clear_16 ?_
  refine rr_putI (pc := 17) B dX0_clear_17 fl_0_27 ob_0_7 fi_0_7 (by omega) ?_
  refine rr_aload0 (pc := 20) B dX0_clear_20 ?_
  refine rr_iconst (z := 0) (pc := 21) B dX0_clear_21 ?_
  refine rr_putI (pc := 22) B dX0_clear_22 fl_0_41 ob_0_8 fi_0_8 (by omega) ?_
  refine rr_aload0 (pc := 25) B dX0_clear_25 ?_
  refine rr_iconst (z := 0) (pc := 26) B dX0_clear_26 ?_
  refine rr_putI (pc := 27) B dX0_clear_27 fl_0_44 ob_0_9 fi_0_9 (by omega) ?_
  refine rr_aload0 (pc := 30) B dX0_clear_30 ?_
  refine rr_iconst (z := (-1)) (pc := 31) B dX0_clear_31 ?_
  refine rr_putI (pc := 32) B dX0_clear_32 fl_0_31 ob_0_10 fi_0_10 (by omega) ?_
  refine rr_iload1 (pc := 35) B dX0_clear_35 ?_
  refine rr_ireturn (pc := 36) B Br dX0_clear_36 ⟨congrArg (fun z => some (aI z)) ?_, ?_⟩
  · first | rfl | omega | (rw [decide_eq_true (by omega)]; rfl) | (rw [decide_eq_false (by omega)]; rfl) | (simp [*]; done)
  · first | rfl | assumption
set_option maxHeartbeats 4000000 in
set_option maxRecDepth 100000 in
theorem ct_X0_allBits (g : ax_G) (M : ax_M) : CT g md_X0_allBits 0 [aR 0] M (pI (p2 (M 0 6) - 1) (M)) := by
  refine ct_intro 0 rfl rfl ?_
  intro X hg B Br
  subst hg
  show AW X 0 [some (aR 0)] [] M
  refine rr_rg (fun G0 => ?_)
  refine rr_iconst (z := 1) (pc := 0) B dX0_allBits_0 ?_
  refine rr_aload0 (pc := 1) B dX0_allBits_1 ?_
  refine rr_getI (pc := 2) B dX0_allBits_2 fl_0_47 ob_0_6 (fun b1 => ?_)
  refine rr_shl1 (pc := 5) B dX0_allBits_5 (by omega) (fun b2 => ?_)
  refine rr_iconst (z := 1) (pc := 6) B dX0_allBits_6 ?_
  refine rr_isub (pc := 7) B dX0_allBits_7 ?_
  refine rr_ireturn (pc := 8) B Br dX0_allBits_8 ⟨congrArg (fun z => some (aI z)) ?_, ?_⟩
  · first | rfl | omega | (rw [decide_eq_true (by omega)]; rfl) | (rw [decide_eq_false (by omega)]; rfl) | (simp [*]; done)
  · first | rfl | assumption
set_option maxHeartbeats 4000000 in
set_option maxRecDepth 100000 in
theorem ct_X0_worthOf (g : ax_G) (M : ax_M) (deeds : Int) (H0 : 0 ≤ deeds ∧ deeds ≤ 2147483647) : CT g md_X0_worthOf 1 [aR 0, aI deeds] M (pI (wof M deeds) (M)) := by
  refine ct_intro 2 rfl rfl ?_
  intro X hg B Br
  subst hg
  show AW X 0 [some (aR 0), some (aI deeds), none, none] [] M
  refine rr_rg (fun G0 => ?_)
  have hz0 := G0.at ob_0_6.2.1
  have L : ∀ n : Nat, (∀ (s1 d : Int), (0 ≤ d ∧ d ≤ M 0 6) → (s1 = itI (fun d s => s + if tb deeds d = true then M 13 d else 0) 0 d) → (0 ≤ s1 ∧ s1 ≤ 9 * d) → ((M 0 6 - d).toNat) < n → AW X 4 [some (aR 0), some (aI deeds), some (aI s1), some (aI d)] [] M) ∧ True := by
    intro n
    induction n with
    | zero => exact ⟨by intros; omega, trivial⟩
    | succ n ih =>
      refine ⟨?_, trivial⟩
      · intro s1 d K0 K1 K2 hm
        refine rr_iload3 (pc := 4) B dX0_worthOf_4 ?_
        refine rr_aload0 (pc := 5) B dX0_worthOf_5 ?_
        refine rr_getI (pc := 6) B dX0_worthOf_6 fl_0_47 ob_0_6 (fun b1 => ?_)
        refine rr_icmp_ge 35 (pc := 9) B dX0_worthOf_9 (by decide) (by omega) (fun b2 => ?_) (fun b2 => ?_)
        · refine rr_iload2 (pc := 35) B dX0_worthOf_35 ?_
          refine rr_ireturn (pc := 36) B Br dX0_worthOf_36 ⟨congrArg (fun z => some (aI z)) ?_, ?_⟩
          · rw [K1, show d = M 0 6 by omega]; rfl
          · first | rfl | assumption
        · refine rr_iload1 (pc := 12) B dX0_worthOf_12 ?_
          refine rr_iload3 (pc := 13) B dX0_worthOf_13 ?_
          refine rc_NI2 (pc := 14) B dX0_worthOf_14 st_X8_hasBit lk_0_69 (ct_X8_hasBit _ _ _ _  (by omega) (by omega)) (Nat.le_of_ble_eq_true rfl) (Nat.le_of_ble_eq_true rfl) ?_
          refine rr_if_eqB 29 (pc := 17) B dX0_worthOf_17 (by decide) (fun b3 => ?_) (fun b3 => ?_)
          · refine rr_iinc3 (z := 1) (pc := 29) B dX0_worthOf_29 rfl ?_
            refine rr_goto 4 (pc := 32) B dX0_worthOf_32 (by decide) ?_
            refine ih.1 _ _ ?_ ?_ ?_ ?_
            · omega
            · rw [itI_s _ _ (by omega), ← K1]; first | (rw [if_pos (by assumption)]; done) | (rw [if_neg (by simp_all)]; omega)
            · omega
            · omega
          · refine rr_iload2 (pc := 20) B dX0_worthOf_20 ?_
            refine rr_aload0 (pc := 21) B dX0_worthOf_21 ?_
            refine rr_getR (pc := 22) B dX0_worthOf_22 fl_0_21 or_0_3 ?_
            refine rr_iload3 (pc := 25) B dX0_worthOf_25 ?_
            refine rr_iaload (pc := 26) B dX0_worthOf_26 sa_13 (by omega) (fun b4 => ?_)
            refine rr_iadd (pc := 27) B dX0_worthOf_27 ?_
            refine rr_istore2 (pc := 28) B dX0_worthOf_28 rfl ?_
            refine rr_iinc3 (z := 1) (pc := 29) B dX0_worthOf_29 rfl ?_
            refine rr_goto 4 (pc := 32) B dX0_worthOf_32 (by decide) ?_
            refine ih.1 _ _ ?_ ?_ ?_ ?_
            · omega
            · rw [itI_s _ _ (by omega), ← K1]; first | (rw [if_pos (by assumption)]; done) | (rw [if_neg (by simp_all)]; omega)
            · omega
            · omega
  refine rr_iconst (z := 0) (pc := 0) B dX0_worthOf_0 ?_
  refine rr_istore2 (pc := 1) B dX0_worthOf_1 rfl ?_
  refine rr_iconst (z := 0) (pc := 2) B dX0_worthOf_2 ?_
  refine rr_istore3 (pc := 3) B dX0_worthOf_3 rfl ?_
  refine (L _).1 _ _ ?_ ?_ ?_ (Nat.lt_succ_self _)
  · have := hz0; omega
  · rfl
  · omega
set_option maxHeartbeats 4000000 in
set_option maxRecDepth 100000 in
theorem ct_X5_say (g : ax_G) (M : ax_M) (k many : Int) (H0 : 0 ≤ k ∧ k ≤ 3) (H1 : 0 ≤ many ∧ many ≤ 4) : CT g md_X5_say 0 [aR 5, aI k, aI many] M (pV (sayM M k many)) := by
  refine ct_intro 0 rfl rfl ?_
  intro X hg B Br
  subst hg
  show AW X 0 [some (aR 5), some (aI k), some (aI many)] [] M
  refine rr_rg (fun G0 => ?_)
  refine rr_aload0 (pc := 0) B dX5_say_0 ?_
  refine rr_getR (pc := 1) B dX5_say_1 fl_5_15 or_5_3 ?_
  refine rr_iload1 (pc := 4) B dX5_say_4 ?_
  refine rr_iload2 (pc := 5) B dX5_say_5 ?_
  refine rr_iastore (pc := 6) B dX5_say_6 sa_30 (by omega) (by omega) ?_
  refine rr_aload0 (pc := 7) B dX5_say_7 ?_
  refine rr_getR (pc := 8) B dX5_say_8 fl_5_19 or_5_4 ?_
  refine rr_iload1 (pc := 11) B dX5_say_11 ?_
  refine rr_iconst (z := 0) (pc := 12) B dX5_say_12 ?_
  refine rr_zastore (pc := 13) B dX5_say_13 sa_31 (by omega) (by omega) (by omega) ?_
  refine rr_aload0 (pc := 14) B dX5_say_14 ?_
  refine rr_getR (pc := 15) B dX5_say_15 fl_5_23 or_5_5 ?_
  refine rr_iload1 (pc := 18) B dX5_say_18 ?_
  refine rr_iconst (z := 0) (pc := 19) B dX5_say_19 ?_
  refine rr_zastore (pc := 20) B dX5_say_20 sa_32 (by omega) (by omega) (by omega) ?_
  refine rr_return (pc := 21) B Br dX5_say_21 ⟨rfl, ?_⟩
  · first | rfl | assumption
set_option maxHeartbeats 4000000 in
set_option maxRecDepth 100000 in
theorem ct_X5_takeKind (g : ax_G) (M : ax_M) (k : Int) (H0 : -1 ≤ k ∧ k ≤ 3) : CT g md_X5_takeKind 0 [aR 5, aI k] M (pI (bi (decide (k ≠ -1))) (rkM M k)) := by
  refine ct_intro 0 rfl rfl ?_
  intro X hg B Br
  subst hg
  show AW X 0 [some (aR 5), some (aI k)] [] M
  refine rr_rg (fun G0 => ?_)
  refine rr_iload1 (pc := 0) B dX5_takeKind_0 ?_
  refine rr_iconst (z := (-1)) (pc := 1) B dX5_takeKind_1 ?_
  refine rr_icmp_ne 7 (pc := 2) B dX5_takeKind_2 (by decide) (by omega) (fun b1 => ?_) (fun b1 => ?_)
  · refine rr_aload0 (pc := 7) B dX5_takeKind_7 ?_
    refine rr_iload1 (pc := 8) B dX5_takeKind_8 ?_
    refine rr_putI (pc := 9) B dX5_takeKind_9 fl_5_66 ob_5_7 fi_5_7 (by omega) ?_
    refine rr_aload0 (pc := 12) B dX5_takeKind_12 ?_
    refine rr_iconst (z := 1) (pc := 13) B dX5_takeKind_13 ?_
    refine rr_putI (pc := 14) B dX5_takeKind_14 fl_5_36 ob_5_8 fi_5_8 (by omega) ?_
    refine rr_iconst (z := 1) (pc := 17) B dX5_takeKind_17 ?_
    refine rr_zreturn (pc := 18) B Br dX5_takeKind_18 (by omega) ⟨congrArg (fun z => some (aI z)) ?_, ?_⟩
    · first | rfl | omega | (rw [decide_eq_true (by omega)]; rfl) | (rw [decide_eq_false (by omega)]; rfl) | (simp [*]; done)
    · unfold rkM; first | (rw [if_pos (by omega)]; done) | (rw [if_neg (by omega)]; done) | (rw [if_pos (by omega)]; rfl) | (rw [if_neg (by omega)]; rfl)
  · refine rr_iconst (z := 0) (pc := 5) B dX5_takeKind_5 ?_
    refine rr_zreturn (pc := 6) B Br dX5_takeKind_6 (by omega) ⟨congrArg (fun z => some (aI z)) ?_, ?_⟩
    · first | rfl | omega | (rw [decide_eq_true (by omega)]; rfl) | (rw [decide_eq_false (by omega)]; rfl) | (simp [*]; done)
    · unfold rkM; first | (rw [if_pos (by omega)]; done) | (rw [if_neg (by omega)]; done) | (rw [if_pos (by omega)]; rfl) | (rw [if_neg (by omega)]; rfl)
set_option maxHeartbeats 4000000 in
set_option maxRecDepth 100000 in
theorem ct_X5_takeMany (g : ax_G) (M : ax_M) (many : Int) (H0 : -1 ≤ many ∧ many ≤ 4) (H1 : M 5 6 < 40) : CT g md_X5_takeMany 1 [aR 5, aI many] M (pI (bi (decide (many ≠ -1))) (rnM M many)) := by
  refine ct_intro 0 rfl rfl ?_
  intro X hg B Br
  subst hg
  show AW X 0 [some (aR 5), some (aI many)] [] M
  refine rr_rg (fun G0 => ?_)
  refine rr_iload1 (pc := 0) B dX5_takeMany_0 ?_
  refine rr_iconst (z := (-1)) (pc := 1) B dX5_takeMany_1 ?_
  refine rr_icmp_ne 7 (pc := 2) B dX5_takeMany_2 (by decide) (by omega) (fun b1 => ?_) (fun b1 => ?_)
  · refine rr_aload0 (pc := 7) B dX5_takeMany_7 ?_
    refine rr_aload0 (pc := 8) B dX5_takeMany_8 ?_
    refine rr_getI (pc := 9) B dX5_takeMany_9 fl_5_66 ob_5_7 (fun b2 => ?_)
    refine rr_iload1 (pc := 12) B dX5_takeMany_12 ?_
    refine rc_VV2 (pc := 13) B dX5_takeMany_13 vm_X5_say lk_5_45 so_5 rfl (ct_X5_say _ _ _ _  (by omega) (by omega)) (Nat.le_of_ble_eq_true rfl) (Nat.le_of_ble_eq_true rfl) ?_
    refine rr_aload0 (pc := 16) B dX5_takeMany_16 ?_
    refine rr_dup (pc := 17) B dX5_takeMany_17 rfl ?_
    refine rr_getI (pc := 18) B dX5_takeMany_18 fl_5_39 ob_5_6 (fun b3 => ?_)
    refine rr_iconst (z := 1) (pc := 21) B dX5_takeMany_21 ?_
    refine rr_iadd (pc := 22) B dX5_takeMany_22 ?_
    refine rr_putI (pc := 23) B dX5_takeMany_23 fl_5_39 ob_5_6 fi_5_6 (by rw [say_5]; rw [say_5] at b3; omega) ?_
    refine rr_aload0 (pc := 26) B dX5_takeMany_26 ?_
    refine rr_iconst (z := 2) (pc := 27) B dX5_takeMany_27 ?_
    refine rr_putI (pc := 28) B dX5_takeMany_28 fl_5_36 ob_5_8 fi_5_8 (by omega) ?_
    refine rr_iconst (z := 1) (pc := 31) B dX5_takeMany_31 ?_
    refine rr_zreturn (pc := 32) B Br dX5_takeMany_32 (by omega) ⟨congrArg (fun z => some (aI z)) ?_, ?_⟩
    · first | rfl | omega | (rw [decide_eq_true (by omega)]; rfl) | (rw [decide_eq_false (by omega)]; rfl) | (simp [*]; done)
    · unfold rnM; first | (rw [if_pos (by omega)]; done) | (rw [if_neg (by omega)]; done) | (rw [if_pos (by omega)]; rfl) | (rw [if_neg (by omega)]; rfl)
  · refine rr_iconst (z := 0) (pc := 5) B dX5_takeMany_5 ?_
    refine rr_zreturn (pc := 6) B Br dX5_takeMany_6 (by omega) ⟨congrArg (fun z => some (aI z)) ?_, ?_⟩
    · first | rfl | omega | (rw [decide_eq_true (by omega)]; rfl) | (rw [decide_eq_false (by omega)]; rfl) | (simp [*]; done)
    · unfold rnM; first | (rw [if_pos (by omega)]; done) | (rw [if_neg (by omega)]; done) | (rw [if_pos (by omega)]; rfl) | (rw [if_neg (by omega)]; rfl)
set_option maxHeartbeats 4000000 in
set_option maxRecDepth 100000 in
theorem ct_X5_takeMark (g : ax_G) (M : ax_M) (b : Int) (H0 : 0 ≤ b ∧ b ≤ 255) : CT g md_X5_takeMark 0 [aR 5, aI b] M (pI (bi (decide (b = 59 ∨ b = 119 ∧ M 5 8 < 3 ∨ b = 104 ∧ M 5 8 < 4))) (rmM M b)) := by
  refine ct_intro 0 rfl rfl ?_
  intro X hg B Br
  subst hg
  show AW X 0 [some (aR 5), some (aI b)] [] M
  refine rr_rg (fun G0 => ?_)
  refine rr_iload1 (pc := 0) B dX5_takeMark_0 ?_
  refine rr_bipush (z := 59) (pc := 1) B dX5_takeMark_1 (by decide) ?_
  refine rr_icmp_ne 13 (pc := 3) B dX5_takeMark_3 (by decide) (by omega) (fun b1 => ?_) (fun b1 => ?_)
  · refine rr_iload1 (pc := 13) B dX5_takeMark_13 ?_
    refine rr_bipush (z := 119) (pc := 14) B dX5_takeMark_14 (by decide) ?_
    refine rr_icmp_ne 44 (pc := 16) B dX5_takeMark_16 (by decide) (by omega) (fun b2 => ?_) (fun b2 => ?_)
    · refine rr_iload1 (pc := 44) B dX5_takeMark_44 ?_
      refine rr_bipush (z := 104) (pc := 45) B dX5_takeMark_45 (by decide) ?_
      refine rr_icmp_ne 75 (pc := 47) B dX5_takeMark_47 (by decide) (by omega) (fun b3 => ?_) (fun b3 => ?_)
      · refine rr_iconst (z := 0) (pc := 75) B dX5_takeMark_75 ?_
        refine rr_zreturn (pc := 76) B Br dX5_takeMark_76 (by omega) ⟨congrArg (fun z => some (aI z)) ?_, ?_⟩
        · first | rfl | omega | (rw [decide_eq_true (by omega)]; rfl) | (rw [decide_eq_false (by omega)]; rfl) | (simp [*]; done)
        · unfold rmM; repeat (first | rw [if_pos (by omega)] | rw [if_neg (by omega)])
      · refine rr_aload0 (pc := 50) B dX5_takeMark_50 ?_
        refine rr_getI (pc := 51) B dX5_takeMark_51 fl_5_36 ob_5_8 (fun b4 => ?_)
        refine rr_iconst (z := 4) (pc := 54) B dX5_takeMark_54 ?_
        refine rr_icmp_ge 75 (pc := 55) B dX5_takeMark_55 (by decide) (by omega) (fun b5 => ?_) (fun b5 => ?_)
        · refine rr_iconst (z := 0) (pc := 75) B dX5_takeMark_75 ?_
          refine rr_zreturn (pc := 76) B Br dX5_takeMark_76 (by omega) ⟨congrArg (fun z => some (aI z)) ?_, ?_⟩
          · first | rfl | omega | (rw [decide_eq_true (by omega)]; rfl) | (rw [decide_eq_false (by omega)]; rfl) | (simp [*]; done)
          · unfold rmM; repeat (first | rw [if_pos (by omega)] | rw [if_neg (by omega)])
        · refine rr_aload0 (pc := 58) B dX5_takeMark_58 ?_
          refine rr_getR (pc := 59) B dX5_takeMark_59 fl_5_23 or_5_5 ?_
          refine rr_aload0 (pc := 62) B dX5_takeMark_62 ?_
          refine rr_getI (pc := 63) B dX5_takeMark_63 fl_5_66 ob_5_7 (fun b6 => ?_)
          refine rr_iconst (z := 1) (pc := 66) B dX5_takeMark_66 ?_
          refine rr_zastore (pc := 67) B dX5_takeMark_67 sa_32 (by omega) (by omega) (by omega) ?_
          refine rr_aload0 (pc := 68) B dX5_takeMark_68 ?_
          refine rr_iconst (z := 4) (pc := 69) B dX5_takeMark_69 ?_
          refine rr_putI (pc := 70) B dX5_takeMark_70 fl_5_36 ob_5_8 fi_5_8 (by omega) ?_
          refine rr_iconst (z := 1) (pc := 73) B dX5_takeMark_73 ?_
          refine rr_zreturn (pc := 74) B Br dX5_takeMark_74 (by omega) ⟨congrArg (fun z => some (aI z)) ?_, ?_⟩
          · first | rfl | omega | (rw [decide_eq_true (by omega)]; rfl) | (rw [decide_eq_false (by omega)]; rfl) | (simp [*]; done)
          · unfold rmM; repeat (first | rw [if_pos (by omega)] | rw [if_neg (by omega)])
    · refine rr_aload0 (pc := 19) B dX5_takeMark_19 ?_
      refine rr_getI (pc := 20) B dX5_takeMark_20 fl_5_36 ob_5_8 (fun b3 => ?_)
      refine rr_iconst (z := 3) (pc := 23) B dX5_takeMark_23 ?_
      refine rr_icmp_ge 44 (pc := 24) B dX5_takeMark_24 (by decide) (by omega) (fun b4 => ?_) (fun b4 => ?_)
      · refine rr_iload1 (pc := 44) B dX5_takeMark_44 ?_
        refine rr_bipush (z := 104) (pc := 45) B dX5_takeMark_45 (by decide) ?_
        refine rr_icmp_ne 75 (pc := 47) B dX5_takeMark_47 (by decide) (by omega) (fun b5 => ?_) (fun b5 => absurd b5 (by omega))
        refine rr_iconst (z := 0) (pc := 75) B dX5_takeMark_75 ?_
        refine rr_zreturn (pc := 76) B Br dX5_takeMark_76 (by omega) ⟨congrArg (fun z => some (aI z)) ?_, ?_⟩
        · first | rfl | omega | (rw [decide_eq_true (by omega)]; rfl) | (rw [decide_eq_false (by omega)]; rfl) | (simp [*]; done)
        · unfold rmM; repeat (first | rw [if_pos (by omega)] | rw [if_neg (by omega)])
      · refine rr_aload0 (pc := 27) B dX5_takeMark_27 ?_
        refine rr_getR (pc := 28) B dX5_takeMark_28 fl_5_19 or_5_4 ?_
        refine rr_aload0 (pc := 31) B dX5_takeMark_31 ?_
        refine rr_getI (pc := 32) B dX5_takeMark_32 fl_5_66 ob_5_7 (fun b5 => ?_)
        refine rr_iconst (z := 1) (pc := 35) B dX5_takeMark_35 ?_
        refine rr_zastore (pc := 36) B dX5_takeMark_36 sa_31 (by omega) (by omega) (by omega) ?_
        refine rr_aload0 (pc := 37) B dX5_takeMark_37 ?_
        refine rr_iconst (z := 3) (pc := 38) B dX5_takeMark_38 ?_
        refine rr_putI (pc := 39) B dX5_takeMark_39 fl_5_36 ob_5_8 fi_5_8 (by omega) ?_
        refine rr_iconst (z := 1) (pc := 42) B dX5_takeMark_42 ?_
        refine rr_zreturn (pc := 43) B Br dX5_takeMark_43 (by omega) ⟨congrArg (fun z => some (aI z)) ?_, ?_⟩
        · first | rfl | omega | (rw [decide_eq_true (by omega)]; rfl) | (rw [decide_eq_false (by omega)]; rfl) | (simp [*]; done)
        · unfold rmM; repeat (first | rw [if_pos (by omega)] | rw [if_neg (by omega)])
  · refine rr_aload0 (pc := 6) B dX5_takeMark_6 ?_
    refine rr_iconst (z := 0) (pc := 7) B dX5_takeMark_7 ?_
    refine rr_putI (pc := 8) B dX5_takeMark_8 fl_5_36 ob_5_8 fi_5_8 (by omega) ?_
    refine rr_iconst (z := 1) (pc := 11) B dX5_takeMark_11 ?_
    refine rr_zreturn (pc := 12) B Br dX5_takeMark_12 (by omega) ⟨congrArg (fun z => some (aI z)) ?_, ?_⟩
    · first | rfl | omega | (rw [decide_eq_true (by omega)]; rfl) | (rw [decide_eq_false (by omega)]; rfl) | (simp [*]; done)
    · unfold rmM; repeat (first | rw [if_pos (by omega)] | rw [if_neg (by omega)])
set_option maxHeartbeats 4000000 in
set_option maxRecDepth 100000 in
theorem ct_X5_goesOn (g : ax_G) (M : ax_M) (b : Int) (H0 : 0 ≤ b ∧ b ≤ 255) (H1 : M 5 6 < 40) : CT g md_X5_goesOn 2 [aR 5, aI b] M (pI (bi (rgB M b)) (rgM M b)) := by
  refine ct_intro 0 rfl rfl ?_
  intro X hg B Br
  subst hg
  show AW X 0 [some (aR 5), some (aI b)] [] M
  refine rr_rg (fun G0 => ?_)
  refine rr_aload0 (pc := 0) B dX5_goesOn_0 ?_
  refine rr_getI (pc := 1) B dX5_goesOn_1 fl_5_36 ob_5_8 (fun b1 => ?_)
  rcases (show M 5 8 = 0 ∨ M 5 8 = 1 ∨ (M 5 8 ≠ 0 ∧ M 5 8 ≠ 1) by omega) with b2 | b2 | b2
  · refine rr_lkp (off := 28) 32 (pc := 4) B dX5_goesOn_4 (by omega) (by decide) (by rw [b2]; decide) (by decide) ?_
    refine rr_aload0 (pc := 32) B dX5_goesOn_32 ?_
    refine rr_iload1 (pc := 33) B dX5_goesOn_33 ?_
    refine rc_NI1 (pc := 34) B dX5_goesOn_34 st_X8_kindOf lk_5_49 (ct_X8_kindOf _ _ _  (by omega)) (Nat.le_of_ble_eq_true rfl) (Nat.le_of_ble_eq_true rfl) ?_
    refine rc_VI1 (pc := 37) B dX5_goesOn_37 vm_X5_takeKind lk_5_53 so_5 rfl (ct_X5_takeKind _ _ _  (by have := kV_r b; omega)) (Nat.le_of_ble_eq_true rfl) (Nat.le_of_ble_eq_true rfl) ?_
    refine rr_zreturn (pc := 40) B Br dX5_goesOn_40 (bi_01 _) ⟨congrArg (fun z => some (aI z)) ?_, ?_⟩
    · unfold rgB; repeat (first | rw [if_pos (by omega)] | rw [if_neg (by omega)])
    · unfold rgM; repeat (first | rw [if_pos (by omega)] | rw [if_neg (by omega)])
  · refine rr_lkp (off := 37) 41 (pc := 4) B dX5_goesOn_4 (by omega) (by decide) (by rw [b2]; decide) (by decide) ?_
    refine rr_aload0 (pc := 41) B dX5_goesOn_41 ?_
    refine rr_iload1 (pc := 42) B dX5_goesOn_42 ?_
    refine rr_iconst (z := 0) (pc := 43) B dX5_goesOn_43 ?_
    refine rr_iconst (z := 4) (pc := 44) B dX5_goesOn_44 ?_
    refine rc_NI3 (pc := 45) B dX5_goesOn_45 st_X8_figureOf lk_5_56 (ct_X8_figureOf _ _ _ _ _  (by omega) (by omega)) (Nat.le_of_ble_eq_true rfl) (Nat.le_of_ble_eq_true rfl) ?_
    refine rc_VI1 (pc := 48) B dX5_goesOn_48 vm_X5_takeMany lk_5_60 so_5 rfl (ct_X5_takeMany _ _ _  (by have := fgV_r (b := b) (lo := 0) (up := 4); omega) (by omega)) (Nat.le_of_ble_eq_true rfl) (Nat.le_of_ble_eq_true rfl) ?_
    refine rr_zreturn (pc := 51) B Br dX5_goesOn_51 (bi_01 _) ⟨congrArg (fun z => some (aI z)) ?_, ?_⟩
    · unfold rgB; repeat (first | rw [if_pos (by omega)] | rw [if_neg (by omega)])
    · unfold rgM; repeat (first | rw [if_pos (by omega)] | rw [if_neg (by omega)])
  · refine rr_lkp (off := 48) 52 (pc := 4) B dX5_goesOn_4 (by omega) (by decide) (by simp [Op.lookupswitch.offset]; repeat (rw [if_neg (by omega)])) (by decide) ?_
    refine rr_aload0 (pc := 52) B dX5_goesOn_52 ?_
    refine rr_iload1 (pc := 53) B dX5_goesOn_53 ?_
    refine rc_VI1 (pc := 54) B dX5_goesOn_54 vm_X5_takeMark lk_5_63 so_5 rfl (ct_X5_takeMark _ _ _  (by omega)) (Nat.le_of_ble_eq_true rfl) (Nat.le_of_ble_eq_true rfl) ?_
    refine rr_zreturn (pc := 57) B Br dX5_goesOn_57 (bi_01 _) ⟨congrArg (fun z => some (aI z)) ?_, ?_⟩
    · unfold rgB; repeat (first | rw [if_pos (by omega)] | rw [if_neg (by omega)])
    · unfold rgM; repeat (first | rw [if_pos (by omega)] | rw [if_neg (by omega)])
theorem rgM_0 (M : ax_M) (b : Int) : rgM M b 5 0 = M 5 0 := by
  unfold rgM rkM rnM rmM
  repeat (first | rfl | split)
theorem rk1_0 (M : ax_M) (b : Int) : rk1 M b 5 0 = M 5 0 := by
  unfold rk1
  split
  · split
    · exact rgM_0 M b
    · exact rgM_0 M b
  · rfl
set_option maxHeartbeats 4000000 in
set_option maxRecDepth 100000 in
theorem ct_X5_take (g : ax_G) (M : ax_M) (b : Int) (H0 : 0 ≤ b ∧ b ≤ 255) (H1 : M 5 0 < 40) (H2 : M 5 6 < 40) : CT g md_X5_take 3 [aR 5, aI b] M (pI (tkR M b 5 0) (tkR M b)) := by
  refine ct_intro 1 rfl rfl ?_
  intro X hg B Br
  subst hg
  show AW X 0 [some (aR 5), some (aI b), none] [] M
  refine rr_rg (fun G0 => ?_)
  have L : ∀ n : Nat, (∀ (M1 : ax_M), (M1 = rk1 M b) → (2) < n → AW X 24 [some (aR 5), some (aI b), none] [] M1) ∧ (∀ (M2 : ax_M), (M2 = rf2 (rk1 M b)) → (1) < n → AW X 34 [some (aR 5), some (aI b), none] [] M2) ∧ (∀ (M2 : ax_M) (w : Option ax_V) (V : Int), (M2 = rf2 (rk1 M b)) → (V = if M2 5 9 ≠ -1 ∨ 2 ≤ M2 5 8 then M2 5 9 else M2 5 0) → (-1 ≤ V ∧ V ≤ 40) → (0) < n → AW X 72 [some (aR 5), some (aI b), w] [aI V, aR 5] M2) ∧ True := by
    intro n
    induction n with
    | zero => exact ⟨by intros; omega, by intros; omega, by intros; omega, trivial⟩
    | succ n ih =>
      refine ⟨?_, ?_, ?_, trivial⟩
      · intro M1 K0 hm
        refine rr_rg (fun G1 => ?_)
        have E5 : M1 5 0 = M 5 0 := by rw [K0]; exact rk1_0 M b
        refine rr_aload0 (pc := 24) B dX5_take_24 ?_
        refine rr_dup (pc := 25) B dX5_take_25 rfl ?_
        refine rr_getI (pc := 26) B dX5_take_26 fl_5_33 ob_5_0 (fun b1 => ?_)
        refine rr_iconst (z := 1) (pc := 29) B dX5_take_29 ?_
        refine rr_iadd (pc := 30) B dX5_take_30 ?_
        refine rr_putI (pc := 31) B dX5_take_31 fl_5_33 ob_5_0 fi_5_0 (by omega) ?_
        refine ih.2.1 _ ?_ ?_
        · rw [← K0]; rfl
        · omega
      · intro M2 K0 hm
        refine rr_rg (fun G1 => ?_)
        refine rr_aload0 (pc := 34) B dX5_take_34 ?_
        refine rr_getI (pc := 35) B dX5_take_35 fl_5_36 ob_5_8 (fun b1 => ?_)
        refine rr_iconst (z := 2) (pc := 38) B dX5_take_38 ?_
        refine rr_icmp_lt 46 (pc := 39) B dX5_take_39 (by decide) (by omega) (fun b2 => ?_) (fun b2 => ?_)
        · refine rr_iconst (z := 0) (pc := 46) B dX5_take_46 ?_
          refine rr_istore2 (pc := 47) B dX5_take_47 rfl ?_
          refine rr_aload0 (pc := 48) B dX5_take_48 ?_
          refine rr_aload0 (pc := 49) B dX5_take_49 ?_
          refine rr_getI (pc := 50) B dX5_take_50 fl_5_26 ob_5_9 (fun b3 => ?_)
          refine rr_iconst (z := (-1)) (pc := 53) B dX5_take_53 ?_
          refine rr_icmp_ne 61 (pc := 54) B dX5_take_54 (by decide) (by omega) (fun b4 => ?_) (fun b4 => ?_)
          · refine rr_aload0 (pc := 61) B dX5_take_61 ?_
            refine rr_getI (pc := 62) B dX5_take_62 fl_5_26 ob_5_9 (fun b5 => ?_)
            refine rr_goto 72 (pc := 65) B dX5_take_65 (by decide) ?_
            refine ih.2.2.1 _ _ _ ?_ ?_ ?_ ?_
            · exact K0
            · first | exact (if_pos (by omega)).symm | exact (if_neg (by omega)).symm
            · omega
            · omega
          · refine rr_iload2 (pc := 57) B dX5_take_57 ?_
            refine rr_if_eq 68 (pc := 58) B dX5_take_58 (by decide) (by omega) (fun b5 => ?_) (fun b5 => absurd b5 (by omega))
            refine rr_aload0 (pc := 68) B dX5_take_68 ?_
            refine rr_getI (pc := 69) B dX5_take_69 fl_5_33 ob_5_0 (fun b6 => ?_)
            refine ih.2.2.1 _ _ _ ?_ ?_ ?_ ?_
            · exact K0
            · first | exact (if_pos (by omega)).symm | exact (if_neg (by omega)).symm
            · omega
            · omega
        · refine rr_iconst (z := 1) (pc := 42) B dX5_take_42 ?_
          refine rr_goto 47 (pc := 43) B dX5_take_43 (by decide) ?_
          refine rr_istore2 (pc := 47) B dX5_take_47 rfl ?_
          refine rr_aload0 (pc := 48) B dX5_take_48 ?_
          refine rr_aload0 (pc := 49) B dX5_take_49 ?_
          refine rr_getI (pc := 50) B dX5_take_50 fl_5_26 ob_5_9 (fun b3 => ?_)
          refine rr_iconst (z := (-1)) (pc := 53) B dX5_take_53 ?_
          refine rr_icmp_ne 61 (pc := 54) B dX5_take_54 (by decide) (by omega) (fun b4 => ?_) (fun b4 => ?_)
          · refine rr_aload0 (pc := 61) B dX5_take_61 ?_
            refine rr_getI (pc := 62) B dX5_take_62 fl_5_26 ob_5_9 (fun b5 => ?_)
            refine rr_goto 72 (pc := 65) B dX5_take_65 (by decide) ?_
            refine ih.2.2.1 _ _ _ ?_ ?_ ?_ ?_
            · exact K0
            · first | exact (if_pos (by omega)).symm | exact (if_neg (by omega)).symm
            · omega
            · omega
          · refine rr_iload2 (pc := 57) B dX5_take_57 ?_
            refine rr_if_eq 68 (pc := 58) B dX5_take_58 (by decide) (by omega) (fun b5 => absurd b5 (by omega)) (fun b5 => ?_)
            refine rr_aload0 (pc := 61) B dX5_take_61 ?_
            refine rr_getI (pc := 62) B dX5_take_62 fl_5_26 ob_5_9 (fun b6 => ?_)
            refine rr_goto 72 (pc := 65) B dX5_take_65 (by decide) ?_
            refine ih.2.2.1 _ _ _ ?_ ?_ ?_ ?_
            · exact K0
            · first | exact (if_pos (by omega)).symm | exact (if_neg (by omega)).symm
            · omega
            · omega
      · intro M2 w V K0 K1 K2 hm
        refine rr_rg (fun G1 => ?_)
        refine rr_putI (pc := 72) B dX5_take_72 fl_5_9 ob_5_2 fi_5_2 (by omega) ?_
        refine rr_aload0 (pc := 75) B dX5_take_75 ?_
        refine rr_aload0 (pc := 76) B dX5_take_76 ?_
        refine rr_getI (pc := 77) B dX5_take_77 fl_5_9 ob_5_2 (fun b1 => ?_)
        refine rr_iconst (z := (-1)) (pc := 80) B dX5_take_80 ?_
        refine rr_icmp_ne 91 (pc := 81) B dX5_take_81 (by decide) (by omega) (fun b2 => ?_) (fun b2 => ?_)
        · refine rr_iconst (z := 0) (pc := 91) B dX5_take_91 ?_
          refine rr_putI (pc := 92) B dX5_take_92 fl_5_42 ob_5_1 fi_5_1 (by omega) ?_
          refine rr_aload0 (pc := 95) B dX5_take_95 ?_
          refine rr_getI (pc := 96) B dX5_take_96 fl_5_33 ob_5_0 (fun b3 => ?_)
          refine rr_ireturn (pc := 99) B Br dX5_take_99 ⟨congrArg (fun z => some (aI z)) ?_, ?_⟩
          · unfold tkR; rw [← K0]; unfold rf4 rf3; rw [← K1]; rfl
          · unfold tkR; rw [← K0]; unfold rf4 rf3; rw [← K1]; first | rw [if_pos (by omega)] | rw [if_neg (by omega)]
        · refine rr_aload0 (pc := 84) B dX5_take_84 ?_
          refine rr_getI (pc := 85) B dX5_take_85 fl_5_39 ob_5_6 (fun b3 => ?_)
          refine rr_goto 92 (pc := 88) B dX5_take_88 (by decide) ?_
          refine rr_putI (pc := 92) B dX5_take_92 fl_5_42 ob_5_1 fi_5_1 (by omega) ?_
          refine rr_aload0 (pc := 95) B dX5_take_95 ?_
          refine rr_getI (pc := 96) B dX5_take_96 fl_5_33 ob_5_0 (fun b4 => ?_)
          refine rr_ireturn (pc := 99) B Br dX5_take_99 ⟨congrArg (fun z => some (aI z)) ?_, ?_⟩
          · unfold tkR; rw [← K0]; unfold rf4 rf3; rw [← K1]; rfl
          · unfold tkR; rw [← K0]; unfold rf4 rf3; rw [← K1]; first | rw [if_pos (by omega)] | rw [if_neg (by omega)]
  refine rr_aload0 (pc := 0) B dX5_take_0 ?_
  refine rr_getI (pc := 1) B dX5_take_1 fl_5_26 ob_5_9 (fun b1 => ?_)
  refine rr_iconst (z := (-1)) (pc := 4) B dX5_take_4 ?_
  refine rr_icmp_ne 24 (pc := 5) B dX5_take_5 (by decide) (by omega) (fun b2 => ?_) (fun b2 => ?_)
  · refine (L _).1 _ ?_ (Nat.lt_succ_self _)
    · unfold rk1; rw [if_neg (by omega)]
  · refine rr_aload0 (pc := 8) B dX5_take_8 ?_
    refine rr_iload1 (pc := 9) B dX5_take_9 ?_
    refine rc_VI1 (pc := 10) B dX5_take_10 vm_X5_goesOn lk_5_29 so_5 rfl (ct_X5_goesOn _ _ _  (by omega) (by omega)) (Nat.le_of_ble_eq_true rfl) (Nat.le_of_ble_eq_true rfl) ?_
    refine rr_if_neB 24 (pc := 13) B dX5_take_13 (by decide) (fun b3 => ?_) (fun b3 => ?_)
    · refine (L _).1 _ ?_ (Nat.lt_succ_self _)
      · unfold rk1; rw [if_pos (by omega), if_pos (by assumption)]
    · refine rr_aload0 (pc := 16) B dX5_take_16 ?_
      refine rr_aload0 (pc := 17) B dX5_take_17 ?_
      refine rr_getI (pc := 18) B dX5_take_18 fl_5_33 ob_5_0 (fun b4 => ?_)
      refine rr_putI (pc := 21) B dX5_take_21 fl_5_26 ob_5_9 fi_5_9 (by rw [rgM_0]; rw [rgM_0] at b4; omega) ?_
      refine (L _).1 _ ?_ (Nat.lt_succ_self _)
      · unfold rk1; rw [if_pos (by omega), if_neg (by simp_all)]
set_option maxHeartbeats 4000000 in
set_option maxRecDepth 100000 in
theorem ct_X5_clear (g : ax_G) (M : ax_M) : CT g md_X5_clear 1 [aR 5] M (pI (M 5 0) (clR M)) := by
  refine ct_intro 2 rfl rfl ?_
  intro X hg B Br
  subst hg
  show AW X 0 [some (aR 5), none, none] [] M
  refine rr_rg (fun G0 => ?_)
  have L : ∀ n : Nat, (∀ (M1 : ax_M) (k : Int), (0 ≤ k ∧ k ≤ 4) → (M1 = itI (fun k M => sayM M k 0) (ms (ms (ms (ms (ms (ms M 5 0 0) 5 1 0) 5 2 (-1)) 5 6 0) 5 8 0) 5 9 (-1)) k) → ((4 - k).toNat) < n → AW X 37 [some (aR 5), some (aI (M 5 0)), some (aI k)] [] M1) ∧ True := by
    intro n
    induction n with
    | zero => exact ⟨by intros; omega, trivial⟩
    | succ n ih =>
      refine ⟨?_, trivial⟩
      · intro M1 k K0 K1 hm
        refine rr_rg (fun G1 => ?_)
        refine rr_iload2 (pc := 37) B dX5_clear_37 ?_
        refine rr_iconst (z := 4) (pc := 38) B dX5_clear_38 ?_
        refine rr_icmp_ge 54 (pc := 39) B dX5_clear_39 (by decide) (by omega) (fun b1 => ?_) (fun b1 => ?_)
        · refine rr_iload1 (pc := 54) B dX5_clear_54 ?_
          refine rr_ireturn (pc := 55) B Br dX5_clear_55 ⟨congrArg (fun z => some (aI z)) ?_, ?_⟩
          · first | rfl | omega | (rw [decide_eq_true (by omega)]; rfl) | (rw [decide_eq_false (by omega)]; rfl) | (simp [*]; done)
          · rw [K1, show k = 4 by omega]; rfl
        · refine rr_aload0 (pc := 42) B dX5_clear_42 ?_
          refine rr_iload2 (pc := 43) B dX5_clear_43 ?_
          refine rr_iconst (z := 0) (pc := 44) B dX5_clear_44 ?_
          refine rc_VV2 (pc := 45) B dX5_clear_45 vm_X5_say lk_5_45 so_5 rfl (ct_X5_say _ _ _ _  (by omega) (by omega)) (Nat.le_of_ble_eq_true rfl) (Nat.le_of_ble_eq_true rfl) ?_
          refine rr_iinc2 (z := 1) (pc := 48) B dX5_clear_48 rfl ?_
          refine rr_goto 37 (pc := 51) B dX5_clear_51 (by decide) ?_
          refine ih.1 _ _ ?_ ?_ ?_
          · omega
          · rw [itI_s _ _ K0.1, ← K1]
          · omega
  refine rr_aload0 (pc := 0) B dX5_clear_0 ?_
  refine rr_getI (pc := 1) B dX5_clear_1 fl_5_33 ob_5_0 (fun b1 => ?_)
  refine rr_istore1 (pc := 4) B dX5_clear_4 rfl ?_
  refine rr_aload0 (pc := 5) B dX5_clear_5 ?_
  refine rr_iconst (z := 0) (pc := 6) B dX5_clear_6 ?_
  refine rr_putI (pc := 7) B dX5_clear_7 fl_5_33 ob_5_0 fi_5_0 (by omega) ?_
  refine rr_aload0 (pc := 10) B dX5_clear_10 ?_
  refine rr_iconst (z := 0) (pc := 11) B dX5_clear_11 ?_
  refine rr_putI (pc := 12) B dX5_clear_12 fl_5_42 ob_5_1 fi_5_1 (by omega) ?_
  refine rr_aload0 (pc := 15) B dX5_clear_15 ?_
  refine rr_iconst (z := (-1)) (pc := 16) B dX5_clear_16 ?_
  refine rr_putI (pc := 17) B dX5_clear_17 fl_5_9 ob_5_2 fi_5_2 (by omega) ?_
  refine rr_aload0 (pc := 20) B dX5_clear_20 ?_
  refine rr_iconst (z := 0) (pc := 21) B dX5_clear_21 ?_
  refine rr_putI (pc := 22) B dX5_clear_22 fl_5_39 ob_5_6 fi_5_6 (by omega) ?_
  refine rr_aload0 (pc := 25) B dX5_clear_25 ?_
  refine rr_iconst (z := 0) (pc := 26) B dX5_clear_26 ?_
  refine rr_putI (pc := 27) B dX5_clear_27 fl_5_36 ob_5_8 fi_5_8 (by omega) ?_
  refine rr_aload0 (pc := 30) B dX5_clear_30 ?_
  refine rr_iconst (z := (-1)) (pc := 31) B dX5_clear_31 ?_
  refine rr_putI (pc := 32) B dX5_clear_32 fl_5_26 ob_5_9 fi_5_9 (by omega) ?_
  refine rr_iconst (z := 0) (pc := 35) B dX5_clear_35 ?_
  refine rr_istore2 (pc := 36) B dX5_clear_36 rfl ?_
  refine (L _).1 _ _ ?_ ?_ (Nat.lt_succ_self _)
  · omega
  · rfl
set_option maxHeartbeats 4000000 in
set_option maxRecDepth 100000 in
theorem ct_X5_needOf (g : ax_G) (M : ax_M) (k : Int) (H0 : 0 ≤ k ∧ k ≤ 3) : CT g md_X5_needOf 0 [aR 5, aI k] M (pI (if M 5 2 = -1 then M 30 k else 0) (M)) := by
  refine ct_intro 0 rfl rfl ?_
  intro X hg B Br
  subst hg
  show AW X 0 [some (aR 5), some (aI k)] [] M
  refine rr_rg (fun G0 => ?_)
  refine rr_aload0 (pc := 0) B dX5_needOf_0 ?_
  refine rr_getI (pc := 1) B dX5_needOf_1 fl_5_9 ob_5_2 (fun b1 => ?_)
  refine rr_iconst (z := (-1)) (pc := 4) B dX5_needOf_4 ?_
  refine rr_icmp_ne 17 (pc := 5) B dX5_needOf_5 (by decide) (by omega) (fun b2 => ?_) (fun b2 => ?_)
  · refine rr_iconst (z := 0) (pc := 17) B dX5_needOf_17 ?_
    refine rr_ireturn (pc := 18) B Br dX5_needOf_18 ⟨congrArg (fun z => some (aI z)) ?_, ?_⟩
    · first | (rw [if_pos (by omega)]; done) | (rw [if_neg (by omega)]; done) | (rw [if_pos (by omega)]; rfl) | (rw [if_neg (by omega)]; rfl)
    · first | rfl | assumption
  · refine rr_aload0 (pc := 8) B dX5_needOf_8 ?_
    refine rr_getR (pc := 9) B dX5_needOf_9 fl_5_15 or_5_3 ?_
    refine rr_iload1 (pc := 12) B dX5_needOf_12 ?_
    refine rr_iaload (pc := 13) B dX5_needOf_13 sa_30 (by omega) (fun b3 => ?_)
    refine rr_goto 18 (pc := 14) B dX5_needOf_14 (by decide) ?_
    refine rr_ireturn (pc := 18) B Br dX5_needOf_18 ⟨congrArg (fun z => some (aI z)) ?_, ?_⟩
    · first | (rw [if_pos (by omega)]; done) | (rw [if_neg (by omega)]; done) | (rw [if_pos (by omega)]; rfl) | (rw [if_neg (by omega)]; rfl)
    · first | rfl | assumption
set_option maxHeartbeats 4000000 in
set_option maxRecDepth 100000 in
theorem ct_X5_asksWeather (g : ax_G) (M : ax_M) (k : Int) (H0 : 0 ≤ k ∧ k ≤ 3) : CT g md_X5_asksWeather 0 [aR 5, aI k] M (pI (bi (decide (M 5 2 = -1 ∧ M 31 k = 1))) (M)) := by
  refine ct_intro 0 rfl rfl ?_
  intro X hg B Br
  subst hg
  show AW X 0 [some (aR 5), some (aI k)] [] M
  refine rr_rg (fun G0 => ?_)
  refine rr_aload0 (pc := 0) B dX5_asksWeather_0 ?_
  refine rr_getI (pc := 1) B dX5_asksWeather_1 fl_5_9 ob_5_2 (fun b1 => ?_)
  refine rr_iconst (z := (-1)) (pc := 4) B dX5_asksWeather_4 ?_
  refine rr_icmp_ne 21 (pc := 5) B dX5_asksWeather_5 (by decide) (by omega) (fun b2 => ?_) (fun b2 => ?_)
  · refine rr_iconst (z := 0) (pc := 21) B dX5_asksWeather_21 ?_
    refine rr_zreturn (pc := 22) B Br dX5_asksWeather_22 (by omega) ⟨congrArg (fun z => some (aI z)) ?_, ?_⟩
    · first | (rw [decide_eq_true (by omega)]; rfl) | (rw [decide_eq_false (by omega)]; rfl)
    · first | rfl | assumption
  · refine rr_aload0 (pc := 8) B dX5_asksWeather_8 ?_
    refine rr_getR (pc := 9) B dX5_asksWeather_9 fl_5_19 or_5_4 ?_
    refine rr_iload1 (pc := 12) B dX5_asksWeather_12 ?_
    refine rr_zaload (pc := 13) B dX5_asksWeather_13 sa_31 (by omega) (fun b3 => ?_)
    refine rr_if_eq 21 (pc := 14) B dX5_asksWeather_14 (by decide) (by omega) (fun b4 => ?_) (fun b4 => ?_)
    · refine rr_iconst (z := 0) (pc := 21) B dX5_asksWeather_21 ?_
      refine rr_zreturn (pc := 22) B Br dX5_asksWeather_22 (by omega) ⟨congrArg (fun z => some (aI z)) ?_, ?_⟩
      · first | (rw [decide_eq_true (by omega)]; rfl) | (rw [decide_eq_false (by omega)]; rfl)
      · first | rfl | assumption
    · refine rr_iconst (z := 1) (pc := 17) B dX5_asksWeather_17 ?_
      refine rr_goto 22 (pc := 18) B dX5_asksWeather_18 (by decide) ?_
      refine rr_zreturn (pc := 22) B Br dX5_asksWeather_22 (by omega) ⟨congrArg (fun z => some (aI z)) ?_, ?_⟩
      · first | (rw [decide_eq_true (by omega)]; rfl) | (rw [decide_eq_false (by omega)]; rfl)
      · first | rfl | assumption
set_option maxHeartbeats 4000000 in
set_option maxRecDepth 100000 in
theorem ct_X5_asksPlace (g : ax_G) (M : ax_M) (k : Int) (H0 : 0 ≤ k ∧ k ≤ 3) : CT g md_X5_asksPlace 0 [aR 5, aI k] M (pI (bi (decide (M 5 2 = -1 ∧ M 32 k = 1))) (M)) := by
  refine ct_intro 0 rfl rfl ?_
  intro X hg B Br
  subst hg
  show AW X 0 [some (aR 5), some (aI k)] [] M
  refine rr_rg (fun G0 => ?_)
  refine rr_aload0 (pc := 0) B dX5_asksPlace_0 ?_
  refine rr_getI (pc := 1) B dX5_asksPlace_1 fl_5_9 ob_5_2 (fun b1 => ?_)
  refine rr_iconst (z := (-1)) (pc := 4) B dX5_asksPlace_4 ?_
  refine rr_icmp_ne 21 (pc := 5) B dX5_asksPlace_5 (by decide) (by omega) (fun b2 => ?_) (fun b2 => ?_)
  · refine rr_iconst (z := 0) (pc := 21) B dX5_asksPlace_21 ?_
    refine rr_zreturn (pc := 22) B Br dX5_asksPlace_22 (by omega) ⟨congrArg (fun z => some (aI z)) ?_, ?_⟩
    · first | (rw [decide_eq_true (by omega)]; rfl) | (rw [decide_eq_false (by omega)]; rfl)
    · first | rfl | assumption
  · refine rr_aload0 (pc := 8) B dX5_asksPlace_8 ?_
    refine rr_getR (pc := 9) B dX5_asksPlace_9 fl_5_23 or_5_5 ?_
    refine rr_iload1 (pc := 12) B dX5_asksPlace_12 ?_
    refine rr_zaload (pc := 13) B dX5_asksPlace_13 sa_32 (by omega) (fun b3 => ?_)
    refine rr_if_eq 21 (pc := 14) B dX5_asksPlace_14 (by decide) (by omega) (fun b4 => ?_) (fun b4 => ?_)
    · refine rr_iconst (z := 0) (pc := 21) B dX5_asksPlace_21 ?_
      refine rr_zreturn (pc := 22) B Br dX5_asksPlace_22 (by omega) ⟨congrArg (fun z => some (aI z)) ?_, ?_⟩
      · first | (rw [decide_eq_true (by omega)]; rfl) | (rw [decide_eq_false (by omega)]; rfl)
      · first | rfl | assumption
    · refine rr_iconst (z := 1) (pc := 17) B dX5_asksPlace_17 ?_
      refine rr_goto 22 (pc := 18) B dX5_asksPlace_18 (by decide) ?_
      refine rr_zreturn (pc := 22) B Br dX5_asksPlace_22 (by omega) ⟨congrArg (fun z => some (aI z)) ?_, ?_⟩
      · first | (rw [decide_eq_true (by omega)]; rfl) | (rw [decide_eq_false (by omega)]; rfl)
      · first | rfl | assumption
