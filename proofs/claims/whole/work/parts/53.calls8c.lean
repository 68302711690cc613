set_option maxHeartbeats 4000000 in
set_option maxRecDepth 100000 in
theorem ct_X8_after (g : ax_G) (M : ax_M) (d e : Int) (S : ax_M) (H0 : RC S M) (H1 : SI S) (H2 : SR S) (H3 : -2147483648 ≤ d ∧ d ≤ 2147483647 ∧ -2147483648 ≤ e ∧ e ≤ 2147483647) : CT g md_X8_after 1 [aR 8, aI d, aI e] M (pIR (vAft S d e) (fun M2 => RC (sAft S d e) M2 ∧ mo M M2)) := by
  refine ct_intro 0 rfl rfl ?_
  intro X hg B Br
  subst hg
  show AW X 0 [some (aR 8), some (aI d), some (aI e)] [] M
  refine rr_rg (fun G0 => ?_)
  have E3 : M 3 0 = S 9 30 := H0.2.2.1.1
  have G3 := G0.at ob_3_0.2.1
  have E7 : M 7 0 = S 9 26 := H0.2.2.2.1.1
  have G7 := G0.at ob_7_0.2.1
  refine rr_iload1 (pc := 0) B dX8_after_0 ?_
  refine rr_bipush (z := 7) (pc := 1) B dX8_after_1 (by decide) ?_
  refine rc_SI2 (pc := 3) B dX8_after_3 st_X8_within lk_8_74 (ct_X8_within _ _ _ _  (by omega)) (Nat.le_of_ble_eq_true rfl) (Nat.le_of_ble_eq_true rfl) ?_
  refine rr_if_eqB 23 (pc := 6) B dX8_after_6 (by decide) (fun b1 => ?_) (fun b1 => ?_)
  · replace b1 := of_decide_eq_false b1
    refine rr_bipush (z := (-2)) (pc := 23) B dX8_after_23 (by decide) ?_
    refine rr_ireturn (pc := 25) B Br dX8_after_25 ⟨congrArg (fun z => some (aI z)) ?_, ?_⟩
    · unfold vAft; rw [if_neg (by omega)]
    · unfold sAft; rw [if_neg (by omega)]; exact ⟨H0, mo_r M⟩
  · replace b1 := of_decide_eq_true b1
    refine rr_iload2 (pc := 9) B dX8_after_9 ?_
    refine rr_bipush (z := 7) (pc := 10) B dX8_after_10 (by decide) ?_
    refine rc_SI2 (pc := 12) B dX8_after_12 st_X8_within lk_8_74 (ct_X8_within _ _ _ _  (by omega)) (Nat.le_of_ble_eq_true rfl) (Nat.le_of_ble_eq_true rfl) ?_
    refine rr_if_eqB 23 (pc := 15) B dX8_after_15 (by decide) (fun b2 => ?_) (fun b2 => ?_)
    · replace b2 := of_decide_eq_false b2
      refine rr_bipush (z := (-2)) (pc := 23) B dX8_after_23 (by decide) ?_
      refine rr_ireturn (pc := 25) B Br dX8_after_25 ⟨congrArg (fun z => some (aI z)) ?_, ?_⟩
      · unfold vAft; rw [if_neg (by omega)]
      · unfold sAft; rw [if_neg (by omega)]; exact ⟨H0, mo_r M⟩
    · replace b2 := of_decide_eq_true b2
      refine rr_iload1 (pc := 18) B dX8_after_18 ?_
      refine rr_iload2 (pc := 19) B dX8_after_19 ?_
      refine rr_icmp_ne 26 (pc := 20) B dX8_after_20 (by decide) (by omega) (fun b3 => ?_) (fun b3 => ?_)
      · refine rr_aload0 (pc := 26) B dX8_after_26 ?_
        refine rr_getR (pc := 27) B dX8_after_27 fl_8_52 or_8_6 ?_
        refine rc_VI0 (pc := 30) B dX8_after_30 vm_X3_isFull lk_8_256 so_3 rfl (ct_X3_isFull _ _   ) (Nat.le_of_ble_eq_true rfl) (Nat.le_of_ble_eq_true rfl) ?_
        refine rr_if_eqB 41 (pc := 33) B dX8_after_33 (by decide) (fun b4 => ?_) (fun b4 => ?_)
        · replace b4 := of_decide_eq_false b4
          refine rr_aload0 (pc := 41) B dX8_after_41 ?_
          refine rr_getR (pc := 42) B dX8_after_42 fl_8_52 or_8_6 ?_
          refine rr_iload1 (pc := 45) B dX8_after_45 ?_
          refine rr_iload2 (pc := 46) B dX8_after_46 ?_
          refine rc_VI2 (pc := 47) B dX8_after_47 vm_X3_add lk_8_257 so_3 rfl (ct_X3_add _ _ _ _  (by omega) (by omega) (by omega)) (Nat.le_of_ble_eq_true rfl) (Nat.le_of_ble_eq_true rfl) ?_
          refine rr_ireturn (pc := 50) B Br dX8_after_50 ⟨congrArg (fun z => some (aI z)) ?_, ?_⟩
          · unfold vAft; rw [if_pos (by omega)]; first | (rw [if_pos (by omega)]; done) | (rw [if_neg (by omega)]; omega)
          · unfold sAft; rw [if_pos (by omega)]; first | (rw [if_pos (by omega)]; exact ⟨H0, mo_r M⟩) | (rw [if_neg (by omega)]; exact ⟨RC_aft d e H0, mo_m (mo_m (mo_m (mo_r M) (by decide)) (by decide)) (by decide)⟩)
        · replace b4 := of_decide_eq_true b4
          refine rr_bipush (z := (-4)) (pc := 36) B dX8_after_36 (by decide) ?_
          refine rr_goto 50 (pc := 38) B dX8_after_38 (by decide) ?_
          refine rr_ireturn (pc := 50) B Br dX8_after_50 ⟨congrArg (fun z => some (aI z)) ?_, ?_⟩
          · unfold vAft; rw [if_pos (by omega)]; first | (rw [if_pos (by omega)]; done) | (rw [if_neg (by omega)]; omega)
          · unfold sAft; rw [if_pos (by omega)]; first | (rw [if_pos (by omega)]; exact ⟨H0, mo_r M⟩) | (rw [if_neg (by omega)]; exact ⟨RC_aft d e H0, mo_m (mo_m (mo_m (mo_r M) (by decide)) (by decide)) (by decide)⟩)
      · refine rr_bipush (z := (-2)) (pc := 23) B dX8_after_23 (by decide) ?_
        refine rr_ireturn (pc := 25) B Br dX8_after_25 ⟨congrArg (fun z => some (aI z)) ?_, ?_⟩
        · unfold vAft; rw [if_neg (by omega)]
        · unfold sAft; rw [if_neg (by omega)]; exact ⟨H0, mo_r M⟩
set_option maxHeartbeats 4000000 in
set_option maxRecDepth 100000 in
theorem ct_X8_forget (g : ax_G) (M : ax_M) (w : Int) (S : ax_M) (H0 : RC S M) (H1 : SI S) (H2 : SR S) (H3 : -2147483648 ≤ w ∧ w ≤ 2147483647) : CT g md_X8_forget 1 [aR 8, aI w] M (pIR (vForg S w) (fun M2 => RC (sForg S w) M2 ∧ mo M M2)) := by
  refine ct_intro 0 rfl rfl ?_
  intro X hg B Br
  subst hg
  show AW X 0 [some (aR 8), some (aI w)] [] M
  refine rr_rg (fun G0 => ?_)
  have E3 : M 3 0 = S 9 30 := H0.2.2.1.1
  have G3 := G0.at ob_3_0.2.1
  have E7 : M 7 0 = S 9 26 := H0.2.2.2.1.1
  have G7 := G0.at ob_7_0.2.1
  refine rr_iload1 (pc := 0) B dX8_forget_0 ?_
  refine rr_iconst (z := 1) (pc := 1) B dX8_forget_1 ?_
  refine rc_SI2 (pc := 2) B dX8_forget_2 st_X8_within lk_8_74 (ct_X8_within _ _ _ _  (by omega)) (Nat.le_of_ble_eq_true rfl) (Nat.le_of_ble_eq_true rfl) ?_
  refine rr_if_neB 11 (pc := 5) B dX8_forget_5 (by decide) (fun b1 => ?_) (fun b1 => ?_)
  · replace b1 := of_decide_eq_true b1
    refine rr_iload1 (pc := 11) B dX8_forget_11 ?_
    refine rr_if_ne 25 (pc := 12) B dX8_forget_12 (by decide) (by omega) (fun b2 => ?_) (fun b2 => ?_)
    · refine rr_aload0 (pc := 25) B dX8_forget_25 ?_
      refine rr_getR (pc := 26) B dX8_forget_26 fl_8_52 or_8_6 ?_
      refine rc_VI0 (pc := 29) B dX8_forget_29 vm_X3_clear lk_8_260 so_3 rfl (ct_X3_clear _ _   ) (Nat.le_of_ble_eq_true rfl) (Nat.le_of_ble_eq_true rfl) ?_
      refine rr_ireturn (pc := 32) B Br dX8_forget_32 ⟨congrArg (fun z => some (aI z)) ?_, ?_⟩
      · unfold vForg; rw [if_pos (by omega)]; first | (rw [if_pos (by omega)]; exact E7) | (rw [if_neg (by omega)]; exact E3)
      · unfold sForg; rw [if_pos (by omega)]; first | (rw [if_pos (by omega)]; exact ⟨RC_fg H0, mo_m (mo_m (mo_r M) (by decide)) (by decide)⟩) | (rw [if_neg (by omega)]; exact ⟨RC_fp H0, mo_m (mo_r M) (by decide)⟩)
    · refine rr_aload0 (pc := 15) B dX8_forget_15 ?_
      refine rr_getR (pc := 16) B dX8_forget_16 fl_8_45 or_8_5 ?_
      refine rc_VI0 (pc := 19) B dX8_forget_19 vm_X7_clear lk_8_259 so_7 rfl (ct_X7_clear _ _   ) (Nat.le_of_ble_eq_true rfl) (Nat.le_of_ble_eq_true rfl) ?_
      refine rr_goto 32 (pc := 22) B dX8_forget_22 (by decide) ?_
      refine rr_ireturn (pc := 32) B Br dX8_forget_32 ⟨congrArg (fun z => some (aI z)) ?_, ?_⟩
      · unfold vForg; rw [if_pos (by omega)]; first | (rw [if_pos (by omega)]; exact E7) | (rw [if_neg (by omega)]; exact E3)
      · unfold sForg; rw [if_pos (by omega)]; first | (rw [if_pos (by omega)]; exact ⟨RC_fg H0, mo_m (mo_m (mo_r M) (by decide)) (by decide)⟩) | (rw [if_neg (by omega)]; exact ⟨RC_fp H0, mo_m (mo_r M) (by decide)⟩)
  · replace b1 := of_decide_eq_false b1
    refine rr_bipush (z := (-2)) (pc := 8) B dX8_forget_8 (by decide) ?_
    refine rr_ireturn (pc := 10) B Br dX8_forget_10 ⟨congrArg (fun z => some (aI z)) ?_, ?_⟩
    · unfold vForg; rw [if_neg (by omega)]
    · unfold sForg; rw [if_neg (by omega)]; exact ⟨H0, mo_r M⟩
set_option maxHeartbeats 4000000 in
set_option maxRecDepth 100000 in
theorem ct_X8_sheet (g : ax_G) (M : ax_M) (s f n : Int) (S : ax_M) (H0 : RC S M) (H1 : SI S) (H2 : SR S) (H3 : -2147483648 ≤ s ∧ s ≤ 2147483647 ∧ -2147483648 ≤ f ∧ f ≤ 2147483647 ∧ -2147483648 ≤ n ∧ n ≤ 2147483647) : CT g md_X8_sheet 2 [aR 8, aI s, aI f, aI n] M (pIR (vSheet S s f n) (fun M2 => RC (sSheet S s f n) M2 ∧ mo M M2)) := by
  refine ct_intro 0 rfl rfl ?_
  intro X hg B Br
  subst hg
  show AW X 0 [some (aR 8), some (aI s), some (aI f), some (aI n)] [] M
  refine rr_rg (fun G0 => ?_)
  refine rr_iload1 (pc := 0) B dX8_sheet_0 ?_
  refine rc_SI1 (pc := 1) B dX8_sheet_1 st_X6_isNumber lk_8_151 (ct_X6_isNumber _ _ _  (by omega)) (Nat.le_of_ble_eq_true rfl) (Nat.le_of_ble_eq_true rfl) ?_
  refine rr_if_eqB 20 (pc := 4) B dX8_sheet_4 (by decide) (fun b1 => ?_) (fun b1 => ?_)
  · replace b1 := of_decide_eq_false b1
    refine rr_bipush (z := (-2)) (pc := 20) B dX8_sheet_20 (by decide) ?_
    refine rr_ireturn (pc := 22) B Br dX8_sheet_22 ⟨congrArg (fun z => some (aI z)) ?_, ?_⟩
    · unfold vSheet; rw [if_neg (by omega)]
    · unfold sSheet; rw [if_neg (by omega)]; exact ⟨H0, mo_r M⟩
  · replace b1 := of_decide_eq_true b1
    refine rr_iload2 (pc := 7) B dX8_sheet_7 ?_
    refine rc_SI1 (pc := 8) B dX8_sheet_8 st_X6_isForm lk_8_273 (ct_X6_isForm _ _ _  (by omega)) (Nat.le_of_ble_eq_true rfl) (Nat.le_of_ble_eq_true rfl) ?_
    refine rr_if_eqB 20 (pc := 11) B dX8_sheet_11 (by decide) (fun b2 => ?_) (fun b2 => ?_)
    · replace b2 := of_decide_eq_false b2
      refine rr_bipush (z := (-2)) (pc := 20) B dX8_sheet_20 (by decide) ?_
      refine rr_ireturn (pc := 22) B Br dX8_sheet_22 ⟨congrArg (fun z => some (aI z)) ?_, ?_⟩
      · unfold vSheet; rw [if_neg (by omega)]
      · unfold sSheet; rw [if_neg (by omega)]; exact ⟨H0, mo_r M⟩
    · replace b2 := of_decide_eq_true b2
      refine rr_iload3 (pc := 14) B dX8_sheet_14 ?_
      refine rr_bipush (z := 60) (pc := 15) B dX8_sheet_15 (by decide) ?_
      refine rr_icmp_le 23 (pc := 17) B dX8_sheet_17 (by decide) (by omega) (fun b3 => ?_) (fun b3 => ?_)
      · refine rr_iload3 (pc := 23) B dX8_sheet_23 ?_
        refine rr_if_ge 38 (pc := 24) B dX8_sheet_24 (by decide) (by omega) (fun b4 => ?_) (fun b4 => ?_)
        · refine rr_aload0 (pc := 38) B dX8_sheet_38 ?_
          refine rr_getR (pc := 39) B dX8_sheet_39 fl_8_59 or_8_7 ?_
          refine rr_iload1 (pc := 42) B dX8_sheet_42 ?_
          refine rr_iload2 (pc := 43) B dX8_sheet_43 ?_
          refine rr_iload3 (pc := 44) B dX8_sheet_44 ?_
          refine rc_VI3 (pc := 45) B dX8_sheet_45 vm_X6_renew lk_8_276 so_6 rfl (ct_X6_renew _ _ _ _ _  (by omega) (by omega) (by omega)) (Nat.le_of_ble_eq_true rfl) (Nat.le_of_ble_eq_true rfl) ?_
          refine rr_ireturn (pc := 48) B Br dX8_sheet_48 ⟨congrArg (fun z => some (aI z)) ?_, ?_⟩
          · unfold vSheet; rw [if_pos (by omega)]; first | (rw [if_pos (by omega)]; done) | (rw [if_neg (by omega)]; done)
          · unfold sSheet; rw [if_pos (by omega)]; first | (rw [if_pos (by omega)]; exact ⟨RC_mee 5 H0, mo_m (mo_r M) (by decide)⟩) | (rw [if_neg (by omega)]; exact ⟨RC_ren (by omega) H0, mo_ren M s f n (by omega)⟩)
        · refine rr_aload0 (pc := 27) B dX8_sheet_27 ?_
          refine rr_getR (pc := 28) B dX8_sheet_28 fl_8_59 or_8_7 ?_
          refine rr_iconst (z := 5) (pc := 31) B dX8_sheet_31 ?_
          refine rc_VI1 (pc := 32) B dX8_sheet_32 vm_X6_tell lk_8_157 so_6 rfl (ct_X6_tell _ _ _  (by omega)) (Nat.le_of_ble_eq_true rfl) (Nat.le_of_ble_eq_true rfl) ?_
          refine rr_goto 48 (pc := 35) B dX8_sheet_35 (by decide) ?_
          refine rr_ireturn (pc := 48) B Br dX8_sheet_48 ⟨congrArg (fun z => some (aI z)) ?_, ?_⟩
          · unfold vSheet; rw [if_pos (by omega)]; first | (rw [if_pos (by omega)]; done) | (rw [if_neg (by omega)]; done)
          · unfold sSheet; rw [if_pos (by omega)]; first | (rw [if_pos (by omega)]; exact ⟨RC_mee 5 H0, mo_m (mo_r M) (by decide)⟩) | (rw [if_neg (by omega)]; exact ⟨RC_ren (by omega) H0, mo_ren M s f n (by omega)⟩)
      · refine rr_bipush (z := (-2)) (pc := 20) B dX8_sheet_20 (by decide) ?_
        refine rr_ireturn (pc := 22) B Br dX8_sheet_22 ⟨congrArg (fun z => some (aI z)) ?_, ?_⟩
        · unfold vSheet; rw [if_neg (by omega)]
        · unfold sSheet; rw [if_neg (by omega)]; exact ⟨H0, mo_r M⟩
set_option maxHeartbeats 4000000 in
set_option maxRecDepth 100000 in
theorem ct_X8_lose (g : ax_G) (M : ax_M) (s : Int) (S : ax_M) (H0 : RC S M) (H1 : SI S) (H2 : SR S) (H3 : -2147483648 ≤ s ∧ s ≤ 2147483647) : CT g md_X8_lose 2 [aR 8, aI s] M (pIR (vLose S s) (fun M2 => RC (sLose S s) M2 ∧ mo M M2)) := by
  refine ct_intro 0 rfl rfl ?_
  intro X hg B Br
  subst hg
  show AW X 0 [some (aR 8), some (aI s)] [] M
  refine rr_rg (fun G0 => ?_)
  refine rr_iload1 (pc := 0) B dX8_lose_0 ?_
  refine rc_SI1 (pc := 1) B dX8_lose_1 st_X6_isNumber lk_8_151 (ct_X6_isNumber _ _ _  (by omega)) (Nat.le_of_ble_eq_true rfl) (Nat.le_of_ble_eq_true rfl) ?_
  refine rr_if_neB 10 (pc := 4) B dX8_lose_4 (by decide) (fun b1 => ?_) (fun b1 => ?_)
  · replace b1 := of_decide_eq_true b1
    refine rr_aload0 (pc := 10) B dX8_lose_10 ?_
    refine rr_getR (pc := 11) B dX8_lose_11 fl_8_59 or_8_7 ?_
    refine rr_iload1 (pc := 14) B dX8_lose_14 ?_
    refine rc_VI1 (pc := 15) B dX8_lose_15 vm_X6_isLost lk_8_154 so_6 rfl (ct_X6_isLost _ _ _  (by omega)) (Nat.le_of_ble_eq_true rfl) (Nat.le_of_ble_eq_true rfl) ?_
    refine rr_if_eqB 32 (pc := 18) B dX8_lose_18 (by decide) (fun b2 => ?_) (fun b2 => ?_)
    · replace b2 := of_decide_eq_false b2
      refine rr_aload0 (pc := 32) B dX8_lose_32 ?_
      refine rr_getR (pc := 33) B dX8_lose_33 fl_8_59 or_8_7 ?_
      refine rr_iload1 (pc := 36) B dX8_lose_36 ?_
      refine rc_VI1 (pc := 37) B dX8_lose_37 vm_X6_drop lk_8_279 so_6 rfl (ct_X6_drop _ _ _  (by omega)) (Nat.le_of_ble_eq_true rfl) (Nat.le_of_ble_eq_true rfl) ?_
      refine rr_ireturn (pc := 40) B Br dX8_lose_40 ⟨congrArg (fun z => some (aI z)) ?_, ?_⟩
      · have z := RC_70 H2 H0 (s := s) (by omega)
        unfold vLose; rw [if_pos (by omega)]; first | (rw [if_pos (z.1.mp b2)]; done) | (rw [if_neg (fun q => b2 (z.1.mpr q))]; exact z.2.2)
      · have z := RC_70 H2 H0 (s := s) (by omega)
        unfold sLose; rw [if_pos (by omega)]; first | (rw [if_pos (z.1.mp b2)]; exact ⟨RC_mee 1 H0, mo_m (mo_r M) (by decide)⟩) | (rw [if_neg (fun q => b2 (z.1.mpr q))]; exact ⟨RC_drop H0, mo_m (mo_r M) (by decide)⟩)
    · replace b2 := of_decide_eq_true b2
      refine rr_aload0 (pc := 21) B dX8_lose_21 ?_
      refine rr_getR (pc := 22) B dX8_lose_22 fl_8_59 or_8_7 ?_
      refine rr_iconst (z := 1) (pc := 25) B dX8_lose_25 ?_
      refine rc_VI1 (pc := 26) B dX8_lose_26 vm_X6_tell lk_8_157 so_6 rfl (ct_X6_tell _ _ _  (by omega)) (Nat.le_of_ble_eq_true rfl) (Nat.le_of_ble_eq_true rfl) ?_
      refine rr_goto 40 (pc := 29) B dX8_lose_29 (by decide) ?_
      refine rr_ireturn (pc := 40) B Br dX8_lose_40 ⟨congrArg (fun z => some (aI z)) ?_, ?_⟩
      · have z := RC_70 H2 H0 (s := s) (by omega)
        unfold vLose; rw [if_pos (by omega)]; first | (rw [if_pos (z.1.mp b2)]; done) | (rw [if_neg (fun q => b2 (z.1.mpr q))]; exact z.2.2)
      · have z := RC_70 H2 H0 (s := s) (by omega)
        unfold sLose; rw [if_pos (by omega)]; first | (rw [if_pos (z.1.mp b2)]; exact ⟨RC_mee 1 H0, mo_m (mo_r M) (by decide)⟩) | (rw [if_neg (fun q => b2 (z.1.mpr q))]; exact ⟨RC_drop H0, mo_m (mo_r M) (by decide)⟩)
  · replace b1 := of_decide_eq_false b1
    refine rr_bipush (z := (-2)) (pc := 7) B dX8_lose_7 (by decide) ?_
    refine rr_ireturn (pc := 9) B Br dX8_lose_9 ⟨congrArg (fun z => some (aI z)) ?_, ?_⟩
    · unfold vLose; rw [if_neg (by omega)]
    · unfold sLose; rw [if_neg (by omega)]; exact ⟨H0, mo_r M⟩
set_option maxHeartbeats 4000000 in
set_option maxRecDepth 100000 in
theorem ct_X8_put (g : ax_G) (M : ax_M) (s f i v : Int) (S : ax_M) (H0 : RC S M) (H1 : SI S) (H2 : SR S) (H3 : -2147483648 ≤ s ∧ s ≤ 2147483647 ∧ -2147483648 ≤ f ∧ f ≤ 2147483647 ∧ -2147483648 ≤ i ∧ i ≤ 2147483647 ∧ -2147483648 ≤ v ∧ v ≤ 2147483647) : CT g md_X8_put 2 [aR 8, aI s, aI f, aI i, aI v] M (pIR (vPut S s f i) (fun M2 => RC (sPut S s f i v) M2 ∧ mo M M2)) := by
  refine ct_intro 1 rfl rfl ?_
  intro X hg B Br
  subst hg
  show AW X 0 [some (aR 8), some (aI s), some (aI f), some (aI i), some (aI v), none] [] M
  refine rr_rg (fun G0 => ?_)
  refine rr_iload1 (pc := 0) B dX8_put_0 ?_
  refine rc_SI1 (pc := 1) B dX8_put_1 st_X6_isNumber lk_8_151 (ct_X6_isNumber _ _ _  (by omega)) (Nat.le_of_ble_eq_true rfl) (Nat.le_of_ble_eq_true rfl) ?_
  refine rr_if_eqB 14 (pc := 4) B dX8_put_4 (by decide) (fun b1 => ?_) (fun b1 => ?_)
  · replace b1 := of_decide_eq_false b1
    refine rr_bipush (z := (-2)) (pc := 14) B dX8_put_14 (by decide) ?_
    refine rr_ireturn (pc := 16) B Br dX8_put_16 ⟨congrArg (fun z => some (aI z)) ?_, ?_⟩
    · unfold vPut; rw [if_neg (by omega)]
    · unfold sPut; rw [if_neg (by omega)]; exact ⟨H0, mo_r M⟩
  · replace b1 := of_decide_eq_true b1
    refine rr_iload2 (pc := 7) B dX8_put_7 ?_
    refine rc_SI1 (pc := 8) B dX8_put_8 st_X6_isForm lk_8_273 (ct_X6_isForm _ _ _  (by omega)) (Nat.le_of_ble_eq_true rfl) (Nat.le_of_ble_eq_true rfl) ?_
    refine rr_if_neB 17 (pc := 11) B dX8_put_11 (by decide) (fun b2 => ?_) (fun b2 => ?_)
    · replace b2 := of_decide_eq_true b2
      refine rr_aload0 (pc := 17) B dX8_put_17 ?_
      refine rr_getR (pc := 18) B dX8_put_18 fl_8_59 or_8_7 ?_
      refine rr_iload1 (pc := 21) B dX8_put_21 ?_
      refine rr_iload2 (pc := 22) B dX8_put_22 ?_
      refine rr_iload3 (pc := 23) B dX8_put_23 ?_
      refine rc_VI3 (pc := 24) B dX8_put_24 vm_X6_findingAt lk_8_282 so_6 rfl (ct_X6_findingAt _ _ _ _ _  (by omega) (by omega)) (Nat.le_of_ble_eq_true rfl) (Nat.le_of_ble_eq_true rfl) ?_
      refine rr_istore5 (pc := 27) B dX8_put_27 rfl ?_
      refine rr_iload5 (pc := 29) B dX8_put_29 ?_
      refine rr_if_eq 44 (pc := 31) B dX8_put_31 (by decide) (by have := fnd_r M s f i; omega) (fun b3 => ?_) (fun b3 => ?_)
      · refine rr_aload0 (pc := 44) B dX8_put_44 ?_
        refine rr_getR (pc := 45) B dX8_put_45 fl_8_59 or_8_7 ?_
        refine rr_iload1 (pc := 48) B dX8_put_48 ?_
        refine rr_iload3 (pc := 49) B dX8_put_49 ?_
        refine rr_iload4 (pc := 50) B dX8_put_50 ?_
        refine rc_VV3 (pc := 52) B dX8_put_52 vm_X6_store lk_8_285 so_6 rfl (ct_X6_store _ _ _ _ _  (by first | omega | (have E := fnd_eq H2 H0 (s := s) (f := f) (i := i) (by omega); have Z := lk_60 H2 (s := s) (f := f) (i := i) (by omega); omega)) (by first | omega | (have E := fnd_eq H2 H0 (s := s) (f := f) (i := i) (by omega); have Z := lk_60 H2 (s := s) (f := f) (i := i) (by omega); omega)) (by first | omega | (have E := fnd_eq H2 H0 (s := s) (f := f) (i := i) (by omega); have Z := lk_60 H2 (s := s) (f := f) (i := i) (by omega); omega))) (Nat.le_of_ble_eq_true rfl) (Nat.le_of_ble_eq_true rfl) ?_
        refine rr_iconst (z := 1) (pc := 55) B dX8_put_55 ?_
        refine rr_ireturn (pc := 56) B Br dX8_put_56 ⟨congrArg (fun z => some (aI z)) ?_, ?_⟩
        · have E := fnd_eq H2 H0 (s := s) (f := f) (i := i) (by omega)
          have R := fnd_r M s f i
          unfold vPut; rw [if_pos (by omega), if_neg (by omega)]
        · have E := fnd_eq H2 H0 (s := s) (f := f) (i := i) (by omega)
          have R := fnd_r M s f i
          have Z := lk_60 H2 (s := s) (f := f) (i := i) (by omega)
          unfold sPut; rw [if_pos (by omega), if_neg (by omega)]; exact ⟨RC_store (by omega) Z.2 Z.1 H0, mo_m (mo_r M) (by omega)⟩
      · refine rr_aload0 (pc := 34) B dX8_put_34 ?_
        refine rr_getR (pc := 35) B dX8_put_35 fl_8_59 or_8_7 ?_
        refine rr_iload5 (pc := 38) B dX8_put_38 ?_
        refine rc_VI1 (pc := 40) B dX8_put_40 vm_X6_tell lk_8_157 so_6 rfl (ct_X6_tell _ _ _  (by have := fnd_r M s f i; omega)) (Nat.le_of_ble_eq_true rfl) (Nat.le_of_ble_eq_true rfl) ?_
        refine rr_ireturn (pc := 43) B Br dX8_put_43 ⟨congrArg (fun z => some (aI z)) ?_, ?_⟩
        · have E := fnd_eq H2 H0 (s := s) (f := f) (i := i) (by omega)
          have R := fnd_r M s f i
          unfold vPut; rw [if_pos (by omega), if_pos (by omega), E]
        · have E := fnd_eq H2 H0 (s := s) (f := f) (i := i) (by omega)
          have R := fnd_r M s f i
          unfold sPut; rw [if_pos (by omega), if_pos (by omega), E]; exact ⟨RC_mee _ H0, mo_m (mo_r M) (by decide)⟩
    · replace b2 := of_decide_eq_false b2
      refine rr_bipush (z := (-2)) (pc := 14) B dX8_put_14 (by decide) ?_
      refine rr_ireturn (pc := 16) B Br dX8_put_16 ⟨congrArg (fun z => some (aI z)) ?_, ?_⟩
      · unfold vPut; rw [if_neg (by omega)]
      · unfold sPut; rw [if_neg (by omega)]; exact ⟨H0, mo_r M⟩
set_option maxHeartbeats 4000000 in
set_option maxRecDepth 100000 in
theorem ct_X8_get (g : ax_G) (M : ax_M) (s f i : Int) (S : ax_M) (H0 : RC S M) (H1 : SI S) (H2 : SR S) (H3 : -2147483648 ≤ s ∧ s ≤ 2147483647 ∧ -2147483648 ≤ f ∧ f ≤ 2147483647 ∧ -2147483648 ≤ i ∧ i ≤ 2147483647) : CT g md_X8_get 2 [aR 8, aI s, aI f, aI i] M (pIR (vGet S s f i) (fun M2 => RC (sGet S s f i) M2 ∧ mo M M2)) := by
  refine ct_intro 1 rfl rfl ?_
  intro X hg B Br
  subst hg
  show AW X 0 [some (aR 8), some (aI s), some (aI f), some (aI i), none] [] M
  refine rr_rg (fun G0 => ?_)
  refine rr_iload1 (pc := 0) B dX8_get_0 ?_
  refine rc_SI1 (pc := 1) B dX8_get_1 st_X6_isNumber lk_8_151 (ct_X6_isNumber _ _ _  (by omega)) (Nat.le_of_ble_eq_true rfl) (Nat.le_of_ble_eq_true rfl) ?_
  refine rr_if_eqB 14 (pc := 4) B dX8_get_4 (by decide) (fun b1 => ?_) (fun b1 => ?_)
  · replace b1 := of_decide_eq_false b1
    refine rr_ldcw (z := (-2147483648)) (pc := 14) B dX8_get_14 cn_8_289 (by decide) ?_
    refine rr_ireturn (pc := 17) B Br dX8_get_17 ⟨congrArg (fun z => some (aI z)) ?_, ?_⟩
    · unfold vGet; rw [if_neg (by omega)]
    · unfold sGet; rw [if_neg (by omega)]; exact ⟨H0, mo_r M⟩
  · replace b1 := of_decide_eq_true b1
    refine rr_iload2 (pc := 7) B dX8_get_7 ?_
    refine rc_SI1 (pc := 8) B dX8_get_8 st_X6_isForm lk_8_273 (ct_X6_isForm _ _ _  (by omega)) (Nat.le_of_ble_eq_true rfl) (Nat.le_of_ble_eq_true rfl) ?_
    refine rr_if_neB 18 (pc := 11) B dX8_get_11 (by decide) (fun b2 => ?_) (fun b2 => ?_)
    · replace b2 := of_decide_eq_true b2
      refine rr_aload0 (pc := 18) B dX8_get_18 ?_
      refine rr_getR (pc := 19) B dX8_get_19 fl_8_59 or_8_7 ?_
      refine rr_iload1 (pc := 22) B dX8_get_22 ?_
      refine rr_iload2 (pc := 23) B dX8_get_23 ?_
      refine rr_iload3 (pc := 24) B dX8_get_24 ?_
      refine rc_VI3 (pc := 25) B dX8_get_25 vm_X6_findingAt lk_8_282 so_6 rfl (ct_X6_findingAt _ _ _ _ _  (by omega) (by omega)) (Nat.le_of_ble_eq_true rfl) (Nat.le_of_ble_eq_true rfl) ?_
      refine rr_istore4 (pc := 28) B dX8_get_28 rfl ?_
      refine rr_iload4 (pc := 30) B dX8_get_30 ?_
      refine rr_if_eq 49 (pc := 32) B dX8_get_32 (by decide) (by have := fnd_r M s f i; omega) (fun b3 => ?_) (fun b3 => ?_)
      · refine rr_aload0 (pc := 49) B dX8_get_49 ?_
        refine rr_getR (pc := 50) B dX8_get_50 fl_8_59 or_8_7 ?_
        refine rr_getR (pc := 53) B dX8_get_53 fl_8_168 or_6_0 ?_
        refine rr_iload1 (pc := 56) B dX8_get_56 ?_
        refine rr_aaload (k2 := 34 + Int.toNat s) (pc := 57) B dX8_get_57 (ax_shp_33) (by decide) (by omega) (rows_at (by omega)) ?_
        refine rr_iload3 (pc := 58) B dX8_get_58 ?_
        refine rr_iaload (pc := 59) B dX8_get_59 (sa_rows (by omega)) (by have E := fnd_eq H2 H0 (s := s) (f := f) (i := i) (by omega); have Z := lk_60 H2 (s := s) (f := f) (i := i) (by omega); omega) (fun b4 => ?_)
        refine rr_ireturn (pc := 60) B Br dX8_get_60 ⟨congrArg (fun z => some (aI z)) ?_, ?_⟩
        · have E := fnd_eq H2 H0 (s := s) (f := f) (i := i) (by omega)
          have R := fnd_r M s f i
          have Z := lk_60 H2 (s := s) (f := f) (i := i) (by omega)
          unfold vGet; rw [if_pos (by omega), if_neg (by omega)]; exact (H0.2.2.2.2.1.2 s (by omega) (by omega)).2.2 i (by omega) (by omega)
        · have E := fnd_eq H2 H0 (s := s) (f := f) (i := i) (by omega)
          have R := fnd_r M s f i
          unfold sGet; rw [if_pos (by omega), if_neg (by omega)]; exact ⟨H0, mo_r M⟩
      · refine rr_aload0 (pc := 35) B dX8_get_35 ?_
        refine rr_getR (pc := 36) B dX8_get_36 fl_8_59 or_8_7 ?_
        refine rr_iload4 (pc := 39) B dX8_get_39 ?_
        refine rc_VI1 (pc := 41) B dX8_get_41 vm_X6_tell lk_8_157 so_6 rfl (ct_X6_tell _ _ _  (by have := fnd_r M s f i; omega)) (Nat.le_of_ble_eq_true rfl) (Nat.le_of_ble_eq_true rfl) ?_
        refine rr_pop (pc := 44) B dX8_get_44 rfl ?_
        refine rr_ldcw (z := (-2147483648)) (pc := 45) B dX8_get_45 cn_8_289 (by decide) ?_
        refine rr_ireturn (pc := 48) B Br dX8_get_48 ⟨congrArg (fun z => some (aI z)) ?_, ?_⟩
        · have E := fnd_eq H2 H0 (s := s) (f := f) (i := i) (by omega)
          have R := fnd_r M s f i
          unfold vGet; rw [if_pos (by omega), if_pos (by omega)]
        · have E := fnd_eq H2 H0 (s := s) (f := f) (i := i) (by omega)
          have R := fnd_r M s f i
          unfold sGet; rw [if_pos (by omega), if_pos (by omega), E]; exact ⟨RC_mee _ H0, mo_m (mo_r M) (by decide)⟩
    · replace b2 := of_decide_eq_false b2
      refine rr_ldcw (z := (-2147483648)) (pc := 14) B dX8_get_14 cn_8_289 (by decide) ?_
      refine rr_ireturn (pc := 17) B Br dX8_get_17 ⟨congrArg (fun z => some (aI z)) ?_, ?_⟩
      · unfold vGet; rw [if_neg (by omega)]
      · unfold sGet; rw [if_neg (by omega)]; exact ⟨H0, mo_r M⟩
set_option maxHeartbeats 4000000 in
set_option maxRecDepth 100000 in
theorem ct_X8_copy (g : ax_G) (M : ax_M) (s i t j n : Int) (S : ax_M) (H0 : RC S M) (H1 : SI S) (H2 : SR S) (H3 : -2147483648 ≤ s ∧ s ≤ 2147483647 ∧ -2147483648 ≤ i ∧ i ≤ 2147483647 ∧ -2147483648 ≤ t ∧ t ≤ 2147483647 ∧ -2147483648 ≤ j ∧ j ≤ 2147483647 ∧ -2147483648 ≤ n ∧ n ≤ 2147483647) : CT g md_X8_copy 2 [aR 8, aI s, aI i, aI t, aI j, aI n] M (pIR (vCopy S s i t j n) (fun M2 => RC (sCopy S s i t j n) M2 ∧ mo M M2)) := by
  refine ct_intro 0 rfl rfl ?_
  intro X hg B Br
  subst hg
  show AW X 0 [some (aR 8), some (aI s), some (aI i), some (aI t), some (aI j), some (aI n)] [] M
  refine rr_rg (fun G0 => ?_)
  refine rr_iload1 (pc := 0) B dX8_copy_0 ?_
  refine rc_SI1 (pc := 1) B dX8_copy_1 st_X6_isNumber lk_8_151 (ct_X6_isNumber _ _ _  (by omega)) (Nat.le_of_ble_eq_true rfl) (Nat.le_of_ble_eq_true rfl) ?_
  refine rr_if_eqB 14 (pc := 4) B dX8_copy_4 (by decide) (fun b1 => ?_) (fun b1 => ?_)
  · replace b1 := of_decide_eq_false b1
    refine rr_bipush (z := (-2)) (pc := 14) B dX8_copy_14 (by decide) ?_
    refine rr_ireturn (pc := 16) B Br dX8_copy_16 ⟨congrArg (fun z => some (aI z)) ?_, ?_⟩
    · unfold vCopy; rw [if_neg (by omega)]
    · unfold sCopy; rw [if_neg (by omega)]; exact ⟨H0, mo_r M⟩
  · replace b1 := of_decide_eq_true b1
    refine rr_iload3 (pc := 7) B dX8_copy_7 ?_
    refine rc_SI1 (pc := 8) B dX8_copy_8 st_X6_isNumber lk_8_151 (ct_X6_isNumber _ _ _  (by omega)) (Nat.le_of_ble_eq_true rfl) (Nat.le_of_ble_eq_true rfl) ?_
    refine rr_if_neB 17 (pc := 11) B dX8_copy_11 (by decide) (fun b2 => ?_) (fun b2 => ?_)
    · replace b2 := of_decide_eq_true b2
      refine rr_aload0 (pc := 17) B dX8_copy_17 ?_
      refine rr_getR (pc := 18) B dX8_copy_18 fl_8_59 or_8_7 ?_
      refine rr_iload1 (pc := 21) B dX8_copy_21 ?_
      refine rc_VI1 (pc := 22) B dX8_copy_22 vm_X6_isLost lk_8_154 so_6 rfl (ct_X6_isLost _ _ _  (by omega)) (Nat.le_of_ble_eq_true rfl) (Nat.le_of_ble_eq_true rfl) ?_
      refine rr_if_neB 39 (pc := 25) B dX8_copy_25 (by decide) (fun b3 => ?_) (fun b3 => ?_)
      · replace b3 := of_decide_eq_true b3
        refine rr_aload0 (pc := 39) B dX8_copy_39 ?_
        refine rr_getR (pc := 40) B dX8_copy_40 fl_8_59 or_8_7 ?_
        refine rr_iconst (z := 1) (pc := 43) B dX8_copy_43 ?_
        refine rc_VI1 (pc := 44) B dX8_copy_44 vm_X6_tell lk_8_157 so_6 rfl (ct_X6_tell _ _ _  (by omega)) (Nat.le_of_ble_eq_true rfl) (Nat.le_of_ble_eq_true rfl) ?_
        refine rr_ireturn (pc := 47) B Br dX8_copy_47 ⟨congrArg (fun z => some (aI z)) ?_, ?_⟩
        · have z := RC_70 H2 H0 (s := s) (by omega)
          have y := RC_70 H2 H0 (s := t) (by omega)
          have S60 : S 72 s ≤ 60 := (H2 72 s rfl).2
          have T60 : S 72 t ≤ 60 := (H2 72 t rfl).2
          have C : cpF S s i t j n = 1 := by unfold cpF; repeat (first | rw [if_pos (by first | omega | (rw [← z.2.1 (by omega), ← y.2.1 (by omega)]; omega))] | rw [if_neg (by first | omega | (rw [← z.2.1 (by omega), ← y.2.1 (by omega)]; omega))])
          unfold vCopy; rw [if_pos (by omega), C, if_neg (by decide)]
        · have z := RC_70 H2 H0 (s := s) (by omega)
          have y := RC_70 H2 H0 (s := t) (by omega)
          have S60 : S 72 s ≤ 60 := (H2 72 s rfl).2
          have T60 : S 72 t ≤ 60 := (H2 72 t rfl).2
          have C : cpF S s i t j n = 1 := by unfold cpF; repeat (first | rw [if_pos (by first | omega | (rw [← z.2.1 (by omega), ← y.2.1 (by omega)]; omega))] | rw [if_neg (by first | omega | (rw [← z.2.1 (by omega), ← y.2.1 (by omega)]; omega))])
          unfold sCopy; rw [if_pos (by omega), C, if_neg (by decide)]; exact ⟨RC_mee _ H0, mo_m (mo_r M) (by decide)⟩
      · replace b3 := of_decide_eq_false b3
        refine rr_aload0 (pc := 28) B dX8_copy_28 ?_
        refine rr_getR (pc := 29) B dX8_copy_29 fl_8_59 or_8_7 ?_
        refine rr_iload3 (pc := 32) B dX8_copy_32 ?_
        refine rc_VI1 (pc := 33) B dX8_copy_33 vm_X6_isLost lk_8_154 so_6 rfl (ct_X6_isLost _ _ _  (by omega)) (Nat.le_of_ble_eq_true rfl) (Nat.le_of_ble_eq_true rfl) ?_
        refine rr_if_eqB 48 (pc := 36) B dX8_copy_36 (by decide) (fun b4 => ?_) (fun b4 => ?_)
        · replace b4 := of_decide_eq_false b4
          refine rr_aload0 (pc := 48) B dX8_copy_48 ?_
          refine rr_getR (pc := 49) B dX8_copy_49 fl_8_59 or_8_7 ?_
          refine rr_getR (pc := 52) B dX8_copy_52 fl_8_290 or_6_1 ?_
          refine rr_iload1 (pc := 55) B dX8_copy_55 ?_
          refine rr_iaload (pc := 56) B dX8_copy_56 sa_38 (by omega) (fun b5 => ?_)
          refine rr_aload0 (pc := 57) B dX8_copy_57 ?_
          refine rr_getR (pc := 58) B dX8_copy_58 fl_8_59 or_8_7 ?_
          refine rr_getR (pc := 61) B dX8_copy_61 fl_8_290 or_6_1 ?_
          refine rr_iload3 (pc := 64) B dX8_copy_64 ?_
          refine rr_iaload (pc := 65) B dX8_copy_65 sa_38 (by omega) (fun b6 => ?_)
          refine rr_icmp_eq 78 (pc := 66) B dX8_copy_66 (by decide) (by omega) (fun b7 => ?_) (fun b7 => ?_)
          · refine rr_aload0 (pc := 78) B dX8_copy_78 ?_
            refine rr_getR (pc := 79) B dX8_copy_79 fl_8_59 or_8_7 ?_
            refine rr_iload1 (pc := 82) B dX8_copy_82 ?_
            refine rr_iload2 (pc := 83) B dX8_copy_83 ?_
            refine rr_iload5 (pc := 84) B dX8_copy_84 ?_
            refine rc_VI3 (pc := 86) B dX8_copy_86 vm_X6_hasSpan lk_8_293 so_6 rfl (ct_X6_hasSpan _ _ _ _ _  (by omega) (by omega)) (Nat.le_of_ble_eq_true rfl) (Nat.le_of_ble_eq_true rfl) ?_
            refine rr_if_eqB 107 (pc := 89) B dX8_copy_89 (by decide) (fun b8 => ?_) (fun b8 => ?_)
            · replace b8 := of_decide_eq_false b8
              refine rr_aload0 (pc := 107) B dX8_copy_107 ?_
              refine rr_getR (pc := 108) B dX8_copy_108 fl_8_59 or_8_7 ?_
              refine rr_iconst (z := 2) (pc := 111) B dX8_copy_111 ?_
              refine rc_VI1 (pc := 112) B dX8_copy_112 vm_X6_tell lk_8_157 so_6 rfl (ct_X6_tell _ _ _  (by omega)) (Nat.le_of_ble_eq_true rfl) (Nat.le_of_ble_eq_true rfl) ?_
              refine rr_ireturn (pc := 115) B Br dX8_copy_115 ⟨congrArg (fun z => some (aI z)) ?_, ?_⟩
              · have z := RC_70 H2 H0 (s := s) (by omega)
                have y := RC_70 H2 H0 (s := t) (by omega)
                have S60 : S 72 s ≤ 60 := (H2 72 s rfl).2
                have T60 : S 72 t ≤ 60 := (H2 72 t rfl).2
                have C : cpF S s i t j n = 2 := by unfold cpF; repeat (first | rw [if_pos (by first | omega | (rw [← z.2.1 (by omega), ← y.2.1 (by omega)]; omega))] | rw [if_neg (by first | omega | (rw [← z.2.1 (by omega), ← y.2.1 (by omega)]; omega))])
                unfold vCopy; rw [if_pos (by omega), C, if_neg (by decide)]
              · have z := RC_70 H2 H0 (s := s) (by omega)
                have y := RC_70 H2 H0 (s := t) (by omega)
                have S60 : S 72 s ≤ 60 := (H2 72 s rfl).2
                have T60 : S 72 t ≤ 60 := (H2 72 t rfl).2
                have C : cpF S s i t j n = 2 := by unfold cpF; repeat (first | rw [if_pos (by first | omega | (rw [← z.2.1 (by omega), ← y.2.1 (by omega)]; omega))] | rw [if_neg (by first | omega | (rw [← z.2.1 (by omega), ← y.2.1 (by omega)]; omega))])
                unfold sCopy; rw [if_pos (by omega), C, if_neg (by decide)]; exact ⟨RC_mee _ H0, mo_m (mo_r M) (by decide)⟩
            · replace b8 := of_decide_eq_true b8
              refine rr_aload0 (pc := 92) B dX8_copy_92 ?_
              refine rr_getR (pc := 93) B dX8_copy_93 fl_8_59 or_8_7 ?_
              refine rr_iload3 (pc := 96) B dX8_copy_96 ?_
              refine rr_iload4 (pc := 97) B dX8_copy_97 ?_
              refine rr_iload5 (pc := 99) B dX8_copy_99 ?_
              refine rc_VI3 (pc := 101) B dX8_copy_101 vm_X6_hasSpan lk_8_293 so_6 rfl (ct_X6_hasSpan _ _ _ _ _  (by omega) (by omega)) (Nat.le_of_ble_eq_true rfl) (Nat.le_of_ble_eq_true rfl) ?_
              refine rr_if_neB 116 (pc := 104) B dX8_copy_104 (by decide) (fun b9 => ?_) (fun b9 => ?_)
              · replace b9 := of_decide_eq_true b9
                refine rr_aload0 (pc := 116) B dX8_copy_116 ?_
                refine rr_getR (pc := 117) B dX8_copy_117 fl_8_59 or_8_7 ?_
                refine rr_getR (pc := 120) B dX8_copy_120 fl_8_168 or_6_0 ?_
                refine rr_iload1 (pc := 123) B dX8_copy_123 ?_
                refine rr_aaload (k2 := 34 + Int.toNat s) (pc := 124) B dX8_copy_124 (ax_shp_33) (by decide) (by omega) (rows_at (by omega)) ?_
                refine rr_iload2 (pc := 125) B dX8_copy_125 ?_
                refine rr_aload0 (pc := 126) B dX8_copy_126 ?_
                refine rr_getR (pc := 127) B dX8_copy_127 fl_8_59 or_8_7 ?_
                refine rr_getR (pc := 130) B dX8_copy_130 fl_8_168 or_6_0 ?_
                refine rr_iload3 (pc := 133) B dX8_copy_133 ?_
                refine rr_aaload (k2 := 34 + Int.toNat t) (pc := 134) B dX8_copy_134 (ax_shp_33) (by decide) (by omega) (rows_at (by omega)) ?_
                refine rr_iload4 (pc := 135) B dX8_copy_135 ?_
                refine rr_iload5 (pc := 137) B dX8_copy_137 ?_
                refine rr_copyI (pc := 139) B dX8_copy_139 (by decide) lk_8_297 cp_nat cp_st cp_ini (sa_rows (by omega)) (sa_rows (by omega)) (by have z := RC_70 H2 H0 (s := s) (by omega); have y := RC_70 H2 H0 (s := t) (by omega); have S60 : S 72 s ≤ 60 := (H2 72 s rfl).2; have T60 : S 72 t ≤ 60 := (H2 72 t rfl).2; omega) (Nat.le_of_ble_eq_true rfl) ?_
                refine rr_iconst (z := 1) (pc := 142) B dX8_copy_142 ?_
                refine rr_ireturn (pc := 143) B Br dX8_copy_143 ⟨congrArg (fun z => some (aI z)) ?_, ?_⟩
                · have z := RC_70 H2 H0 (s := s) (by omega)
                  have y := RC_70 H2 H0 (s := t) (by omega)
                  have S60 : S 72 s ≤ 60 := (H2 72 s rfl).2
                  have T60 : S 72 t ≤ 60 := (H2 72 t rfl).2
                  have C : cpF S s i t j n = 0 := by unfold cpF; repeat (first | rw [if_pos (by first | omega | (rw [← z.2.1 (by omega), ← y.2.1 (by omega)]; omega))] | rw [if_neg (by first | omega | (rw [← z.2.1 (by omega), ← y.2.1 (by omega)]; omega))])
                  unfold vCopy; rw [if_pos (by omega), C, if_pos rfl]
                · have z := RC_70 H2 H0 (s := s) (by omega)
                  have y := RC_70 H2 H0 (s := t) (by omega)
                  have S60 : S 72 s ≤ 60 := (H2 72 s rfl).2
                  have T60 : S 72 t ≤ 60 := (H2 72 t rfl).2
                  have C : cpF S s i t j n = 0 := by unfold cpF; repeat (first | rw [if_pos (by first | omega | (rw [← z.2.1 (by omega), ← y.2.1 (by omega)]; omega))] | rw [if_neg (by first | omega | (rw [← z.2.1 (by omega), ← y.2.1 (by omega)]; omega))])
                  unfold sCopy; rw [if_pos (by omega), C, if_pos rfl]; exact ⟨RC_copy (by omega) (by omega) (by omega) (by omega) (by omega) H0, mo_mc M _ _ _ _ _ (by omega)⟩
              · replace b9 := of_decide_eq_false b9
                refine rr_aload0 (pc := 107) B dX8_copy_107 ?_
                refine rr_getR (pc := 108) B dX8_copy_108 fl_8_59 or_8_7 ?_
                refine rr_iconst (z := 2) (pc := 111) B dX8_copy_111 ?_
                refine rc_VI1 (pc := 112) B dX8_copy_112 vm_X6_tell lk_8_157 so_6 rfl (ct_X6_tell _ _ _  (by omega)) (Nat.le_of_ble_eq_true rfl) (Nat.le_of_ble_eq_true rfl) ?_
                refine rr_ireturn (pc := 115) B Br dX8_copy_115 ⟨congrArg (fun z => some (aI z)) ?_, ?_⟩
                · have z := RC_70 H2 H0 (s := s) (by omega)
                  have y := RC_70 H2 H0 (s := t) (by omega)
                  have S60 : S 72 s ≤ 60 := (H2 72 s rfl).2
                  have T60 : S 72 t ≤ 60 := (H2 72 t rfl).2
                  have C : cpF S s i t j n = 2 := by unfold cpF; repeat (first | rw [if_pos (by first | omega | (rw [← z.2.1 (by omega), ← y.2.1 (by omega)]; omega))] | rw [if_neg (by first | omega | (rw [← z.2.1 (by omega), ← y.2.1 (by omega)]; omega))])
                  unfold vCopy; rw [if_pos (by omega), C, if_neg (by decide)]
                · have z := RC_70 H2 H0 (s := s) (by omega)
                  have y := RC_70 H2 H0 (s := t) (by omega)
                  have S60 : S 72 s ≤ 60 := (H2 72 s rfl).2
                  have T60 : S 72 t ≤ 60 := (H2 72 t rfl).2
                  have C : cpF S s i t j n = 2 := by unfold cpF; repeat (first | rw [if_pos (by first | omega | (rw [← z.2.1 (by omega), ← y.2.1 (by omega)]; omega))] | rw [if_neg (by first | omega | (rw [← z.2.1 (by omega), ← y.2.1 (by omega)]; omega))])
                  unfold sCopy; rw [if_pos (by omega), C, if_neg (by decide)]; exact ⟨RC_mee _ H0, mo_m (mo_r M) (by decide)⟩
          · refine rr_aload0 (pc := 69) B dX8_copy_69 ?_
            refine rr_getR (pc := 70) B dX8_copy_70 fl_8_59 or_8_7 ?_
            refine rr_iconst (z := 4) (pc := 73) B dX8_copy_73 ?_
            refine rc_VI1 (pc := 74) B dX8_copy_74 vm_X6_tell lk_8_157 so_6 rfl (ct_X6_tell _ _ _  (by omega)) (Nat.le_of_ble_eq_true rfl) (Nat.le_of_ble_eq_true rfl) ?_
            refine rr_ireturn (pc := 77) B Br dX8_copy_77 ⟨congrArg (fun z => some (aI z)) ?_, ?_⟩
            · have z := RC_70 H2 H0 (s := s) (by omega)
              have y := RC_70 H2 H0 (s := t) (by omega)
              have S60 : S 72 s ≤ 60 := (H2 72 s rfl).2
              have T60 : S 72 t ≤ 60 := (H2 72 t rfl).2
              have C : cpF S s i t j n = 4 := by unfold cpF; repeat (first | rw [if_pos (by first | omega | (rw [← z.2.1 (by omega), ← y.2.1 (by omega)]; omega))] | rw [if_neg (by first | omega | (rw [← z.2.1 (by omega), ← y.2.1 (by omega)]; omega))])
              unfold vCopy; rw [if_pos (by omega), C, if_neg (by decide)]
            · have z := RC_70 H2 H0 (s := s) (by omega)
              have y := RC_70 H2 H0 (s := t) (by omega)
              have S60 : S 72 s ≤ 60 := (H2 72 s rfl).2
              have T60 : S 72 t ≤ 60 := (H2 72 t rfl).2
              have C : cpF S s i t j n = 4 := by unfold cpF; repeat (first | rw [if_pos (by first | omega | (rw [← z.2.1 (by omega), ← y.2.1 (by omega)]; omega))] | rw [if_neg (by first | omega | (rw [← z.2.1 (by omega), ← y.2.1 (by omega)]; omega))])
              unfold sCopy; rw [if_pos (by omega), C, if_neg (by decide)]; exact ⟨RC_mee _ H0, mo_m (mo_r M) (by decide)⟩
        · replace b4 := of_decide_eq_true b4
          refine rr_aload0 (pc := 39) B dX8_copy_39 ?_
          refine rr_getR (pc := 40) B dX8_copy_40 fl_8_59 or_8_7 ?_
          refine rr_iconst (z := 1) (pc := 43) B dX8_copy_43 ?_
          refine rc_VI1 (pc := 44) B dX8_copy_44 vm_X6_tell lk_8_157 so_6 rfl (ct_X6_tell _ _ _  (by omega)) (Nat.le_of_ble_eq_true rfl) (Nat.le_of_ble_eq_true rfl) ?_
          refine rr_ireturn (pc := 47) B Br dX8_copy_47 ⟨congrArg (fun z => some (aI z)) ?_, ?_⟩
          · have z := RC_70 H2 H0 (s := s) (by omega)
            have y := RC_70 H2 H0 (s := t) (by omega)
            have S60 : S 72 s ≤ 60 := (H2 72 s rfl).2
            have T60 : S 72 t ≤ 60 := (H2 72 t rfl).2
            have C : cpF S s i t j n = 1 := by unfold cpF; repeat (first | rw [if_pos (by first | omega | (rw [← z.2.1 (by omega), ← y.2.1 (by omega)]; omega))] | rw [if_neg (by first | omega | (rw [← z.2.1 (by omega), ← y.2.1 (by omega)]; omega))])
            unfold vCopy; rw [if_pos (by omega), C, if_neg (by decide)]
          · have z := RC_70 H2 H0 (s := s) (by omega)
            have y := RC_70 H2 H0 (s := t) (by omega)
            have S60 : S 72 s ≤ 60 := (H2 72 s rfl).2
            have T60 : S 72 t ≤ 60 := (H2 72 t rfl).2
            have C : cpF S s i t j n = 1 := by unfold cpF; repeat (first | rw [if_pos (by first | omega | (rw [← z.2.1 (by omega), ← y.2.1 (by omega)]; omega))] | rw [if_neg (by first | omega | (rw [← z.2.1 (by omega), ← y.2.1 (by omega)]; omega))])
            unfold sCopy; rw [if_pos (by omega), C, if_neg (by decide)]; exact ⟨RC_mee _ H0, mo_m (mo_r M) (by decide)⟩
    · replace b2 := of_decide_eq_false b2
      refine rr_bipush (z := (-2)) (pc := 14) B dX8_copy_14 (by decide) ?_
      refine rr_ireturn (pc := 16) B Br dX8_copy_16 ⟨congrArg (fun z => some (aI z)) ?_, ?_⟩
      · unfold vCopy; rw [if_neg (by omega)]
      · unfold sCopy; rw [if_neg (by omega)]; exact ⟨H0, mo_r M⟩
set_option maxHeartbeats 4000000 in
set_option maxRecDepth 100000 in
theorem ct_X8_isFalse (g : ax_G) (M : ax_M) (a b : Int) (S : ax_M) (H0 : RC S M) (H1 : SI S) (H2 : SR S) (H3 : -2147483648 ≤ a ∧ a ≤ 2147483647 ∧ -2147483648 ≤ b ∧ b ≤ 2147483647) : CT g md_X8_isFalse 2 [aR 8, aI a, aI b] M (pIR (vFalse S a b) (fun M2 => RC (S) M2 ∧ mo M M2)) := by
  refine ct_intro 0 rfl rfl ?_
  intro X hg B Br
  subst hg
  show AW X 0 [some (aR 8), some (aI a), some (aI b)] [] M
  refine rr_rg (fun G0 => ?_)
  have E3 : M 3 0 = S 9 30 := H0.2.2.1.1
  have G3 := G0.at ob_3_0.2.1
  have E7 : M 7 0 = S 9 26 := H0.2.2.2.1.1
  have G7 := G0.at ob_7_0.2.1
  refine rr_iload1 (pc := 0) B dX8_isFalse_0 ?_
  refine rr_aload0 (pc := 1) B dX8_isFalse_1 ?_
  refine rr_getR (pc := 2) B dX8_isFalse_2 fl_8_45 or_8_5 ?_
  refine rr_getIE (pc := 5) B dX8_isFalse_5 fl_8_244 ob_7_0 (E7) (fun b1 => ?_)
  refine rr_iconst (z := 1) (pc := 8) B dX8_isFalse_8 ?_
  refine rr_isub (pc := 9) B dX8_isFalse_9 ?_
  refine rc_SI2 (pc := 10) B dX8_isFalse_10 st_X8_within lk_8_74 (ct_X8_within _ _ _ _  (by omega)) (Nat.le_of_ble_eq_true rfl) (Nat.le_of_ble_eq_true rfl) ?_
  refine rr_if_eqB 37 (pc := 13) B dX8_isFalse_13 (by decide) (fun b2 => ?_) (fun b2 => ?_)
  · replace b2 := of_decide_eq_false b2
    refine rr_bipush (z := (-2)) (pc := 37) B dX8_isFalse_37 (by decide) ?_
    refine rr_ireturn (pc := 39) B Br dX8_isFalse_39 ⟨congrArg (fun z => some (aI z)) ?_, ?_⟩
    · unfold vFalse; rw [if_neg (by omega)]
    · exact ⟨H0, mo_r M⟩
  · replace b2 := of_decide_eq_true b2
    refine rr_iload2 (pc := 16) B dX8_isFalse_16 ?_
    refine rr_aload0 (pc := 17) B dX8_isFalse_17 ?_
    refine rr_getR (pc := 18) B dX8_isFalse_18 fl_8_45 or_8_5 ?_
    refine rr_getIE (pc := 21) B dX8_isFalse_21 fl_8_244 ob_7_0 (E7) (fun b3 => ?_)
    refine rr_iconst (z := 1) (pc := 24) B dX8_isFalse_24 ?_
    refine rr_isub (pc := 25) B dX8_isFalse_25 ?_
    refine rc_SI2 (pc := 26) B dX8_isFalse_26 st_X8_within lk_8_74 (ct_X8_within _ _ _ _  (by omega)) (Nat.le_of_ble_eq_true rfl) (Nat.le_of_ble_eq_true rfl) ?_
    refine rr_if_eqB 37 (pc := 29) B dX8_isFalse_29 (by decide) (fun b4 => ?_) (fun b4 => ?_)
    · replace b4 := of_decide_eq_false b4
      refine rr_bipush (z := (-2)) (pc := 37) B dX8_isFalse_37 (by decide) ?_
      refine rr_ireturn (pc := 39) B Br dX8_isFalse_39 ⟨congrArg (fun z => some (aI z)) ?_, ?_⟩
      · unfold vFalse; rw [if_neg (by omega)]
      · exact ⟨H0, mo_r M⟩
    · replace b4 := of_decide_eq_true b4
      refine rr_iload1 (pc := 32) B dX8_isFalse_32 ?_
      refine rr_iload2 (pc := 33) B dX8_isFalse_33 ?_
      refine rr_icmp_ne 40 (pc := 34) B dX8_isFalse_34 (by decide) (by omega) (fun b5 => ?_) (fun b5 => ?_)
      · refine rr_aload0 (pc := 40) B dX8_isFalse_40 ?_
        refine rr_getR (pc := 41) B dX8_isFalse_41 fl_8_45 or_8_5 ?_
        refine rr_iload1 (pc := 44) B dX8_isFalse_44 ?_
        refine rr_iload2 (pc := 45) B dX8_isFalse_45 ?_
        refine rc_VI2 (pc := 46) B dX8_isFalse_46 vm_X7_clash lk_8_245 so_7 rfl (ct_X7_clash _ _ _ _  (by omega) (by omega)) (Nat.le_of_ble_eq_true rfl) (Nat.le_of_ble_eq_true rfl) ?_
        refine rr_if_eqB 56 (pc := 49) B dX8_isFalse_49 (by decide) (fun b6 => ?_) (fun b6 => ?_)
        · refine rr_iconst (z := 0) (pc := 56) B dX8_isFalse_56 ?_
          refine rr_ireturn (pc := 57) B Br dX8_isFalse_57 ⟨congrArg (fun z => some (aI z)) ?_, ?_⟩
          · have E := cl_eq H0 (a := a) (b := b) (by omega) (by omega)
            unfold vFalse; rw [if_pos (by omega), ← E]
            first | (rw [b4]; rfl) | (rw [show clB M a b = true by assumption]; rfl) | (rw [show clB M a b = false by assumption]; rfl)
          · exact ⟨H0, mo_r M⟩
        · refine rr_iconst (z := 1) (pc := 52) B dX8_isFalse_52 ?_
          refine rr_goto 57 (pc := 53) B dX8_isFalse_53 (by decide) ?_
          refine rr_ireturn (pc := 57) B Br dX8_isFalse_57 ⟨congrArg (fun z => some (aI z)) ?_, ?_⟩
          · have E := cl_eq H0 (a := a) (b := b) (by omega) (by omega)
            unfold vFalse; rw [if_pos (by omega), ← E]
            first | (rw [b4]; rfl) | (rw [show clB M a b = true by assumption]; rfl) | (rw [show clB M a b = false by assumption]; rfl)
          · exact ⟨H0, mo_r M⟩
      · refine rr_bipush (z := (-2)) (pc := 37) B dX8_isFalse_37 (by decide) ?_
        refine rr_ireturn (pc := 39) B Br dX8_isFalse_39 ⟨congrArg (fun z => some (aI z)) ?_, ?_⟩
        · unfold vFalse; rw [if_neg (by omega)]
        · exact ⟨H0, mo_r M⟩
