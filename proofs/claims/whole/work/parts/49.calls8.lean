set_option maxHeartbeats 4000000 in
set_option maxRecDepth 100000 in
theorem ct_X8_isDeed (g : ax_G) (M : ax_M) (d : Int) (S : ax_M) (H0 : RC S M) (H1 : -2147483648 ≤ d ∧ d ≤ 2147483647) : CT g md_X8_isDeed 1 [aR 8, aI d] M (pI (bi (decide (0 ≤ d ∧ d ≤ vw S 9 2 - 1))) (M)) := by
  refine ct_intro 0 rfl rfl ?_
  intro X hg B Br
  subst hg
  show AW X 0 [some (aR 8), some (aI d)] [] M
  refine rr_rg (fun G0 => ?_)
  refine rr_iload1 (pc := 0) B dX8_isDeed_0 ?_
  refine rr_aload0 (pc := 1) B dX8_isDeed_1 ?_
  refine rr_getR (pc := 2) B dX8_isDeed_2 fl_8_27 or_8_2 ?_
  refine rr_getIE (pc := 5) B dX8_isDeed_5 fl_8_201 ob_0_6 ((H0.1.1.1.2.1 : M 0 6 = vw S 9 2)) (fun b1 => ?_)
  refine rr_iconst (z := 1) (pc := 8) B dX8_isDeed_8 ?_
  refine rr_isub (pc := 9) B dX8_isDeed_9 ?_
  refine rc_SI2 (pc := 10) B dX8_isDeed_10 st_X8_within lk_8_74 (ct_X8_within _ _ _ _  (by omega)) (Nat.le_of_ble_eq_true rfl) (Nat.le_of_ble_eq_true rfl) ?_
  refine rr_zreturn (pc := 13) B Br dX8_isDeed_13 (bi_01 _) ⟨congrArg (fun z => some (aI z)) ?_, ?_⟩
  · first | rfl | omega | (rw [decide_eq_true (by omega)]; rfl) | (rw [decide_eq_false (by omega)]; rfl) | (simp [*]; done)
  · first | rfl | assumption
set_option maxHeartbeats 4000000 in
set_option maxRecDepth 100000 in
theorem ct_X8_type (g : ax_G) (M : ax_M) (x b : Int) (S : ax_M) (H0 : RC S M) (H1 : SI S) (H2 : SR S) (H3 : -2147483648 ≤ x ∧ x ≤ 2147483647 ∧ -2147483648 ≤ b ∧ b ≤ 2147483647) : CT g md_X8_type 4 [aR 8, aI x, aI b] M (pIR (vType S x b) (fun M2 => RC (sType S x b) M2 ∧ mo M M2)) := by
  refine ct_intro 0 rfl rfl ?_
  intro X hg B Br
  subst hg
  show AW X 0 [some (aR 8), some (aI x), some (aI b)] [] M
  refine rr_rg (fun G0 => ?_)
  have E5 : M 0 5 = S 45 0 := H0.1.1.1.1.trans (dq_5 (t0 S) H2.n0.1)
  have E0 : M 5 0 = S 45 1 := H0.1.2.1.1.trans (rq_0 (t1 S) H2.n1.1)
  have E6 : M 5 6 ≤ S 45 1 := by have := (rq_par (t1 S) H2.n1.1).1.2; rw [show M 5 6 = rq (t1 S) (S 45 1) 5 6 from H0.1.2.1.2.2.2.1]; exact this
  have I1 := H1.1
  have N0 := H2.n0
  have N1 := H2.n1
  refine rr_iload1 (pc := 0) B dX8_type_0 ?_
  refine rr_iconst (z := 1) (pc := 1) B dX8_type_1 ?_
  refine rc_SI2 (pc := 2) B dX8_type_2 st_X8_within lk_8_74 (ct_X8_within _ _ _ _  (by omega)) (Nat.le_of_ble_eq_true rfl) (Nat.le_of_ble_eq_true rfl) ?_
  refine rr_if_eqB 18 (pc := 5) B dX8_type_5 (by decide) (fun b1 => ?_) (fun b1 => ?_)
  · replace b1 := of_decide_eq_false b1
    refine rr_bipush (z := (-2)) (pc := 18) B dX8_type_18 (by decide) ?_
    refine rr_ireturn (pc := 20) B Br dX8_type_20 ⟨congrArg (fun z => some (aI z)) ?_, ?_⟩
    · unfold vType; rw [if_neg (by omega)]
    · unfold sType; rw [if_neg (by omega)]; exact ⟨H0, mo_r M⟩
  · replace b1 := of_decide_eq_true b1
    refine rr_iload2 (pc := 8) B dX8_type_8 ?_
    refine rr_sipush (z := 255) (pc := 9) B dX8_type_9 (by decide) ?_
    refine rc_SI2 (pc := 12) B dX8_type_12 st_X8_within lk_8_74 (ct_X8_within _ _ _ _  (by omega)) (Nat.le_of_ble_eq_true rfl) (Nat.le_of_ble_eq_true rfl) ?_
    refine rr_if_neB 21 (pc := 15) B dX8_type_15 (by decide) (fun b2 => ?_) (fun b2 => ?_)
    · replace b2 := of_decide_eq_true b2
      refine rr_iload1 (pc := 21) B dX8_type_21 ?_
      refine rr_if_ne 40 (pc := 22) B dX8_type_22 (by decide) (by omega) (fun b3 => ?_) (fun b3 => ?_)
      · refine rr_aload0 (pc := 40) B dX8_type_40 ?_
        refine rr_getR (pc := 41) B dX8_type_41 fl_8_34 or_8_3 ?_
        refine rr_getIE (pc := 44) B dX8_type_44 fl_8_84 ob_5_0 (E0) (fun b4 => ?_)
        refine rr_bipush (z := 40) (pc := 47) B dX8_type_47 (by decide) ?_
        refine rr_icmp_lt 55 (pc := 49) B dX8_type_49 (by decide) (by omega) (fun b5 => ?_) (fun b5 => ?_)
        · refine rr_aload0 (pc := 55) B dX8_type_55 ?_
          refine rc_VV0 (pc := 56) B dX8_type_56 vm_X8_nightChanged lk_8_87 so_8 rfl (ct_X8_nightChanged _ _   ) (Nat.le_of_ble_eq_true rfl) (Nat.le_of_ble_eq_true rfl) ?_
          refine rr_iload1 (pc := 59) B dX8_type_59 ?_
          refine rr_if_ne 74 (pc := 60) B dX8_type_60 (by decide) (by omega) (fun b6 => ?_) (fun b6 => absurd b6 (by omega))
          refine rr_aload0 (pc := 74) B dX8_type_74 ?_
          refine rr_getR (pc := 75) B dX8_type_75 fl_8_34 or_8_3 ?_
          refine rr_iload2 (pc := 78) B dX8_type_78 ?_
          refine rc_VI1 (pc := 79) B dX8_type_79 vm_X5_take lk_8_94 so_5 rfl (ct_X5_take _ _ _  (by first | omega | (show M 5 0 < 40; omega) | (show M 5 6 < 40; omega)) (by first | omega | (show M 5 0 < 40; omega) | (show M 5 6 < 40; omega)) (by first | omega | (show M 5 0 < 40; omega) | (show M 5 6 < 40; omega))) (Nat.le_of_ble_eq_true rfl) (Nat.le_of_ble_eq_true rfl) ?_
          refine rr_ireturn (pc := 82) B Br dX8_type_82 ⟨congrArg (fun z => some (aI z)) ?_, ?_⟩
          · unfold vType; rw [if_pos (by omega)]
            first
            | (obtain rfl : x = 0 := by omega
               rw [if_neg (by rw [if_pos rfl]; omega), tkD_by]
               show M 0 5 + 1 = S 45 0 + 1
               omega)
            | (obtain rfl : x = 1 := by omega
               rw [if_neg (by rw [if_neg (by decide)]; omega), tkR_by]
               show M 5 0 + 1 = S 45 1 + 1
               omega)
          · unfold sType; rw [if_pos (by omega)]
            first
            | (obtain rfl : x = 0 := by omega
               rw [if_neg (by rw [if_pos rfl]; omega)]
               exact ⟨RC_ty0 H0 H2 (by omega), mo_tkD M b⟩)
            | (obtain rfl : x = 1 := by omega
               rw [if_neg (by rw [if_neg (by decide)]; omega)]
               exact ⟨RC_ty1 H0 H2, mo_tkR M b⟩)
        · refine rr_bipush (z := (-4)) (pc := 52) B dX8_type_52 (by decide) ?_
          refine rr_ireturn (pc := 54) B Br dX8_type_54 ⟨congrArg (fun z => some (aI z)) ?_, ?_⟩
          · unfold vType; rw [if_pos (by omega), if_pos (by rcases (show x = 0 ∨ x = 1 by omega) with rfl | rfl <;> first | (rw [if_pos rfl]; omega) | (rw [if_neg (by decide)]; omega))]
          · unfold sType; rw [if_pos (by omega), if_pos (by rcases (show x = 0 ∨ x = 1 by omega) with rfl | rfl <;> first | (rw [if_pos rfl]; omega) | (rw [if_neg (by decide)]; omega))]; exact ⟨H0, mo_r M⟩
      · refine rr_aload0 (pc := 25) B dX8_type_25 ?_
        refine rr_getR (pc := 26) B dX8_type_26 fl_8_27 or_8_2 ?_
        refine rr_getIE (pc := 29) B dX8_type_29 fl_8_78 ob_0_5 (E5) (fun b4 => ?_)
        refine rr_bipush (z := 80) (pc := 32) B dX8_type_32 (by decide) ?_
        refine rr_icmp_lt 55 (pc := 34) B dX8_type_34 (by decide) (by omega) (fun b5 => ?_) (fun b5 => ?_)
        · refine rr_aload0 (pc := 55) B dX8_type_55 ?_
          refine rc_VV0 (pc := 56) B dX8_type_56 vm_X8_nightChanged lk_8_87 so_8 rfl (ct_X8_nightChanged _ _   ) (Nat.le_of_ble_eq_true rfl) (Nat.le_of_ble_eq_true rfl) ?_
          refine rr_iload1 (pc := 59) B dX8_type_59 ?_
          refine rr_if_ne 74 (pc := 60) B dX8_type_60 (by decide) (by omega) (fun b6 => absurd b6 (by omega)) (fun b6 => ?_)
          refine rr_aload0 (pc := 63) B dX8_type_63 ?_
          refine rr_getR (pc := 64) B dX8_type_64 fl_8_27 or_8_2 ?_
          refine rr_iload2 (pc := 67) B dX8_type_67 ?_
          refine rc_VI1 (pc := 68) B dX8_type_68 vm_X0_take lk_8_90 so_0 rfl (ct_X0_take _ _ _  (by first | omega | (show M 0 5 < 80; omega)) (by first | omega | (show M 0 5 < 80; omega))) (Nat.le_of_ble_eq_true rfl) (Nat.le_of_ble_eq_true rfl) ?_
          refine rr_goto 82 (pc := 71) B dX8_type_71 (by decide) ?_
          refine rr_ireturn (pc := 82) B Br dX8_type_82 ⟨congrArg (fun z => some (aI z)) ?_, ?_⟩
          · unfold vType; rw [if_pos (by omega)]
            first
            | (obtain rfl : x = 0 := by omega
               rw [if_neg (by rw [if_pos rfl]; omega), tkD_by]
               show M 0 5 + 1 = S 45 0 + 1
               omega)
            | (obtain rfl : x = 1 := by omega
               rw [if_neg (by rw [if_neg (by decide)]; omega), tkR_by]
               show M 5 0 + 1 = S 45 1 + 1
               omega)
          · unfold sType; rw [if_pos (by omega)]
            first
            | (obtain rfl : x = 0 := by omega
               rw [if_neg (by rw [if_pos rfl]; omega)]
               exact ⟨RC_ty0 H0 H2 (by omega), mo_tkD M b⟩)
            | (obtain rfl : x = 1 := by omega
               rw [if_neg (by rw [if_neg (by decide)]; omega)]
               exact ⟨RC_ty1 H0 H2, mo_tkR M b⟩)
        · refine rr_goto 52 (pc := 37) B dX8_type_37 (by decide) ?_
          refine rr_bipush (z := (-4)) (pc := 52) B dX8_type_52 (by decide) ?_
          refine rr_ireturn (pc := 54) B Br dX8_type_54 ⟨congrArg (fun z => some (aI z)) ?_, ?_⟩
          · unfold vType; rw [if_pos (by omega), if_pos (by rcases (show x = 0 ∨ x = 1 by omega) with rfl | rfl <;> first | (rw [if_pos rfl]; omega) | (rw [if_neg (by decide)]; omega))]
          · unfold sType; rw [if_pos (by omega), if_pos (by rcases (show x = 0 ∨ x = 1 by omega) with rfl | rfl <;> first | (rw [if_pos rfl]; omega) | (rw [if_neg (by decide)]; omega))]; exact ⟨H0, mo_r M⟩
    · replace b2 := of_decide_eq_false b2
      refine rr_bipush (z := (-2)) (pc := 18) B dX8_type_18 (by decide) ?_
      refine rr_ireturn (pc := 20) B Br dX8_type_20 ⟨congrArg (fun z => some (aI z)) ?_, ?_⟩
      · unfold vType; rw [if_neg (by omega)]
      · unfold sType; rw [if_neg (by omega)]; exact ⟨H0, mo_r M⟩
set_option maxHeartbeats 4000000 in
set_option maxRecDepth 100000 in
theorem ct_X8_wipe (g : ax_G) (M : ax_M) (x : Int) (S : ax_M) (H0 : RC S M) (H1 : SI S) (H2 : SR S) (H3 : -2147483648 ≤ x ∧ x ≤ 2147483647) : CT g md_X8_wipe 2 [aR 8, aI x] M (pIR (vWipe S x) (fun M2 => RC (sWipe S x) M2 ∧ mo M M2)) := by
  refine ct_intro 0 rfl rfl ?_
  intro X hg B Br
  subst hg
  show AW X 0 [some (aR 8), some (aI x)] [] M
  refine rr_rg (fun G0 => ?_)
  have E5 : M 0 5 = S 45 0 := H0.1.1.1.1.trans (dq_5 (t0 S) H2.n0.1)
  have E0 : M 5 0 = S 45 1 := H0.1.2.1.1.trans (rq_0 (t1 S) H2.n1.1)
  have E6 : M 5 6 ≤ S 45 1 := by have := (rq_par (t1 S) H2.n1.1).1.2; rw [show M 5 6 = rq (t1 S) (S 45 1) 5 6 from H0.1.2.1.2.2.2.1]; exact this
  have I1 := H1.1
  have N0 := H2.n0
  have N1 := H2.n1
  refine rr_iload1 (pc := 0) B dX8_wipe_0 ?_
  refine rr_iconst (z := 1) (pc := 1) B dX8_wipe_1 ?_
  refine rc_SI2 (pc := 2) B dX8_wipe_2 st_X8_within lk_8_74 (ct_X8_within _ _ _ _  (by omega)) (Nat.le_of_ble_eq_true rfl) (Nat.le_of_ble_eq_true rfl) ?_
  refine rr_if_neB 11 (pc := 5) B dX8_wipe_5 (by decide) (fun b1 => ?_) (fun b1 => ?_)
  · replace b1 := of_decide_eq_true b1
    refine rr_aload0 (pc := 11) B dX8_wipe_11 ?_
    refine rc_VV0 (pc := 12) B dX8_wipe_12 vm_X8_nightChanged lk_8_87 so_8 rfl (ct_X8_nightChanged _ _   ) (Nat.le_of_ble_eq_true rfl) (Nat.le_of_ble_eq_true rfl) ?_
    refine rr_iload1 (pc := 15) B dX8_wipe_15 ?_
    refine rr_if_ne 29 (pc := 16) B dX8_wipe_16 (by decide) (by omega) (fun b2 => ?_) (fun b2 => ?_)
    · refine rr_aload0 (pc := 29) B dX8_wipe_29 ?_
      refine rr_getR (pc := 30) B dX8_wipe_30 fl_8_34 or_8_3 ?_
      refine rc_VI0 (pc := 33) B dX8_wipe_33 vm_X5_clear lk_8_99 so_5 rfl (ct_X5_clear _ _   ) (Nat.le_of_ble_eq_true rfl) (Nat.le_of_ble_eq_true rfl) ?_
      refine rr_ireturn (pc := 36) B Br dX8_wipe_36 ⟨congrArg (fun z => some (aI z)) ?_, ?_⟩
      · unfold vWipe; rw [if_pos (by omega)]
        first
        | (obtain rfl : x = 0 := by omega
           exact E5)
        | (obtain rfl : x = 1 := by omega
           exact E0)
      · unfold sWipe; rw [if_pos (by omega)]
        first
        | (obtain rfl : x = 0 := by omega
           exact ⟨RC_wi0 H0, mo_clD M⟩)
        | (obtain rfl : x = 1 := by omega
           exact ⟨RC_wi1 H0, mo_clR M⟩)
    · refine rr_aload0 (pc := 19) B dX8_wipe_19 ?_
      refine rr_getR (pc := 20) B dX8_wipe_20 fl_8_27 or_8_2 ?_
      refine rc_VI0 (pc := 23) B dX8_wipe_23 vm_X0_clear lk_8_95 so_0 rfl (ct_X0_clear _ _   ) (Nat.le_of_ble_eq_true rfl) (Nat.le_of_ble_eq_true rfl) ?_
      refine rr_goto 36 (pc := 26) B dX8_wipe_26 (by decide) ?_
      refine rr_ireturn (pc := 36) B Br dX8_wipe_36 ⟨congrArg (fun z => some (aI z)) ?_, ?_⟩
      · unfold vWipe; rw [if_pos (by omega)]
        first
        | (obtain rfl : x = 0 := by omega
           exact E5)
        | (obtain rfl : x = 1 := by omega
           exact E0)
      · unfold sWipe; rw [if_pos (by omega)]
        first
        | (obtain rfl : x = 0 := by omega
           exact ⟨RC_wi0 H0, mo_clD M⟩)
        | (obtain rfl : x = 1 := by omega
           exact ⟨RC_wi1 H0, mo_clR M⟩)
  · replace b1 := of_decide_eq_false b1
    refine rr_bipush (z := (-2)) (pc := 8) B dX8_wipe_8 (by decide) ?_
    refine rr_ireturn (pc := 10) B Br dX8_wipe_10 ⟨congrArg (fun z => some (aI z)) ?_, ?_⟩
    · unfold vWipe; rw [if_neg (by omega)]
    · unfold sWipe; rw [if_neg (by omega)]; exact ⟨H0, mo_r M⟩
set_option maxHeartbeats 4000000 in
set_option maxRecDepth 100000 in
theorem ct_X8_fault (g : ax_G) (M : ax_M) (x : Int) (S : ax_M) (H0 : RC S M) (H1 : SI S) (H2 : SR S) (H3 : -2147483648 ≤ x ∧ x ≤ 2147483647) : CT g md_X8_fault 1 [aR 8, aI x] M (pIR (vFault S x) (fun M2 => RC (S) M2 ∧ mo M M2)) := by
  refine ct_intro 0 rfl rfl ?_
  intro X hg B Br
  subst hg
  show AW X 0 [some (aR 8), some (aI x)] [] M
  refine rr_rg (fun G0 => ?_)
  refine rr_iload1 (pc := 0) B dX8_fault_0 ?_
  refine rr_iconst (z := 1) (pc := 1) B dX8_fault_1 ?_
  refine rc_SI2 (pc := 2) B dX8_fault_2 st_X8_within lk_8_74 (ct_X8_within _ _ _ _  (by omega)) (Nat.le_of_ble_eq_true rfl) (Nat.le_of_ble_eq_true rfl) ?_
  refine rr_if_neB 11 (pc := 5) B dX8_fault_5 (by decide) (fun b1 => ?_) (fun b1 => ?_)
  · replace b1 := of_decide_eq_true b1
    refine rr_iload1 (pc := 11) B dX8_fault_11 ?_
    refine rr_if_ne 25 (pc := 12) B dX8_fault_12 (by decide) (by omega) (fun b2 => ?_) (fun b2 => ?_)
    · refine rr_aload0 (pc := 25) B dX8_fault_25 ?_
      refine rr_getR (pc := 26) B dX8_fault_26 fl_8_34 or_8_3 ?_
      refine rr_getIE (pc := 29) B dX8_fault_29 fl_8_103 ob_5_2 ((H0.1.2.1.2.2.1 : M 5 2 = qr S 5 2)) (fun b3 => ?_)
      refine rr_ireturn (pc := 32) B Br dX8_fault_32 ⟨congrArg (fun z => some (aI z)) ?_, ?_⟩
      · unfold vFault; repeat (first | rw [if_pos (by omega)] | rw [if_neg (by omega)])
      · exact ⟨H0, mo_r M⟩
    · refine rr_aload0 (pc := 15) B dX8_fault_15 ?_
      refine rr_getR (pc := 16) B dX8_fault_16 fl_8_27 or_8_2 ?_
      refine rr_getIE (pc := 19) B dX8_fault_19 fl_8_100 ob_0_7 ((H0.1.1.1.2.2 : M 0 7 = qd S 0 7)) (fun b3 => ?_)
      refine rr_goto 32 (pc := 22) B dX8_fault_22 (by decide) ?_
      refine rr_ireturn (pc := 32) B Br dX8_fault_32 ⟨congrArg (fun z => some (aI z)) ?_, ?_⟩
      · unfold vFault; repeat (first | rw [if_pos (by omega)] | rw [if_neg (by omega)])
      · exact ⟨H0, mo_r M⟩
  · replace b1 := of_decide_eq_false b1
    refine rr_bipush (z := (-2)) (pc := 8) B dX8_fault_8 (by decide) ?_
    refine rr_ireturn (pc := 10) B Br dX8_fault_10 ⟨congrArg (fun z => some (aI z)) ?_, ?_⟩
    · unfold vFault; repeat (first | rw [if_pos (by omega)] | rw [if_neg (by omega)])
    · exact ⟨H0, mo_r M⟩
set_option maxHeartbeats 4000000 in
set_option maxRecDepth 100000 in
theorem ct_X8_deed (g : ax_G) (M : ax_M) (d w : Int) (S : ax_M) (H0 : RC S M) (H1 : SI S) (H2 : SR S) (H3 : -2147483648 ≤ d ∧ d ≤ 2147483647 ∧ -2147483648 ≤ w ∧ w ≤ 2147483647) : CT g md_X8_deed 2 [aR 8, aI d, aI w] M (pIR (vDeed S d w) (fun M2 => RC (S) M2 ∧ mo M M2)) := by
  refine ct_intro 0 rfl rfl ?_
  intro X hg B Br
  subst hg
  show AW X 0 [some (aR 8), some (aI d), some (aI w)] [] M
  refine rr_rg (fun G0 => ?_)
  have A := RC_ag H2 H0
  have N8 := vw_n8 H2
  refine rr_aload0 (pc := 0) B dX8_deed_0 ?_
  refine rr_iload1 (pc := 1) B dX8_deed_1 ?_
  refine rc_VI1 (pc := 2) B dX8_deed_2 vm_X8_isDeed lk_8_104 so_8 rfl (ct_X8_isDeed _ _ _ _ (by first | exact H0 | omega) (by first | exact H0 | omega)) (Nat.le_of_ble_eq_true rfl) (Nat.le_of_ble_eq_true rfl) ?_
  refine rr_if_eqB 16 (pc := 5) B dX8_deed_5 (by decide) (fun b1 => ?_) (fun b1 => ?_)
  · replace b1 := of_decide_eq_false b1
    refine rr_bipush (z := (-2)) (pc := 16) B dX8_deed_16 (by decide) ?_
    refine rr_ireturn (pc := 18) B Br dX8_deed_18 ⟨congrArg (fun z => some (aI z)) ?_, ?_⟩
    · unfold vDeed dOf; first | (rw [if_neg (by omega)]; done) | (rw [if_pos (by omega)]; repeat (first | rw [if_pos (by omega)] | rw [if_neg (by omega)]))
    · exact ⟨H0, mo_r M⟩
  · replace b1 := of_decide_eq_true b1
    refine rr_iload2 (pc := 8) B dX8_deed_8 ?_
    refine rr_iconst (z := 4) (pc := 9) B dX8_deed_9 ?_
    refine rc_SI2 (pc := 10) B dX8_deed_10 st_X8_within lk_8_74 (ct_X8_within _ _ _ _  (by omega)) (Nat.le_of_ble_eq_true rfl) (Nat.le_of_ble_eq_true rfl) ?_
    refine rr_if_neB 19 (pc := 13) B dX8_deed_13 (by decide) (fun b2 => ?_) (fun b2 => ?_)
    · replace b2 := of_decide_eq_true b2
      refine rr_iload2 (pc := 19) B dX8_deed_19 ?_
      rcases (show w = 0 ∨ w = 1 ∨ w = 2 ∨ w = 3 ∨ (w < 0 ∨ 3 < w) by omega) with b3 | b3 | b3 | b3 | b3
      · refine rr_tabAt 0 52 (pc := 20) B dX8_deed_20 b3 (by decide) rfl (by decide) ?_
        refine rr_aload0 (pc := 52) B dX8_deed_52 ?_
        refine rr_getR (pc := 53) B dX8_deed_53 fl_8_27 or_8_2 ?_
        refine rr_getR (pc := 56) B dX8_deed_56 fl_8_108 or_0_0 ?_
        refine rr_iload1 (pc := 59) B dX8_deed_59 ?_
        refine rr_ialoadE (pc := 60) B dX8_deed_60 sa_10 (by omega) ((A.2.1 _ (by omega) (by omega)).1) (fun b4 => ?_)
        refine rr_ireturn (pc := 61) B Br dX8_deed_61 ⟨congrArg (fun z => some (aI z)) ?_, ?_⟩
        · unfold vDeed dOf; first | (rw [if_neg (by omega)]; done) | (rw [if_pos (by omega)]; repeat (first | rw [if_pos (by omega)] | rw [if_neg (by omega)]))
        · exact ⟨H0, mo_r M⟩
      · refine rr_tabAt 1 62 (pc := 20) B dX8_deed_20 b3 (by decide) rfl (by decide) ?_
        refine rr_aload0 (pc := 62) B dX8_deed_62 ?_
        refine rr_getR (pc := 63) B dX8_deed_63 fl_8_27 or_8_2 ?_
        refine rr_getR (pc := 66) B dX8_deed_66 fl_8_111 or_0_1 ?_
        refine rr_iload1 (pc := 69) B dX8_deed_69 ?_
        refine rr_ialoadE (pc := 70) B dX8_deed_70 sa_11 (by omega) ((A.2.1 _ (by omega) (by omega)).2.1) (fun b4 => ?_)
        refine rr_ireturn (pc := 71) B Br dX8_deed_71 ⟨congrArg (fun z => some (aI z)) ?_, ?_⟩
        · unfold vDeed dOf; first | (rw [if_neg (by omega)]; done) | (rw [if_pos (by omega)]; repeat (first | rw [if_pos (by omega)] | rw [if_neg (by omega)]))
        · exact ⟨H0, mo_r M⟩
      · refine rr_tabAt 2 72 (pc := 20) B dX8_deed_20 b3 (by decide) rfl (by decide) ?_
        refine rr_aload0 (pc := 72) B dX8_deed_72 ?_
        refine rr_getR (pc := 73) B dX8_deed_73 fl_8_27 or_8_2 ?_
        refine rr_getR (pc := 76) B dX8_deed_76 fl_8_114 or_0_2 ?_
        refine rr_iload1 (pc := 79) B dX8_deed_79 ?_
        refine rr_ialoadE (pc := 80) B dX8_deed_80 sa_12 (by omega) ((A.2.1 _ (by omega) (by omega)).2.2.1) (fun b4 => ?_)
        refine rr_ireturn (pc := 81) B Br dX8_deed_81 ⟨congrArg (fun z => some (aI z)) ?_, ?_⟩
        · unfold vDeed dOf; first | (rw [if_neg (by omega)]; done) | (rw [if_pos (by omega)]; repeat (first | rw [if_pos (by omega)] | rw [if_neg (by omega)]))
        · exact ⟨H0, mo_r M⟩
      · refine rr_tabAt 3 82 (pc := 20) B dX8_deed_20 b3 (by decide) rfl (by decide) ?_
        refine rr_aload0 (pc := 82) B dX8_deed_82 ?_
        refine rr_getR (pc := 83) B dX8_deed_83 fl_8_27 or_8_2 ?_
        refine rr_getR (pc := 86) B dX8_deed_86 fl_8_117 or_0_3 ?_
        refine rr_iload1 (pc := 89) B dX8_deed_89 ?_
        refine rr_ialoadE (pc := 90) B dX8_deed_90 sa_13 (by omega) ((A.2.1 _ (by omega) (by omega)).2.2.2.1) (fun b4 => ?_)
        refine rr_ireturn (pc := 91) B Br dX8_deed_91 ⟨congrArg (fun z => some (aI z)) ?_, ?_⟩
        · unfold vDeed dOf; first | (rw [if_neg (by omega)]; done) | (rw [if_pos (by omega)]; repeat (first | rw [if_pos (by omega)] | rw [if_neg (by omega)]))
        · exact ⟨H0, mo_r M⟩
      · refine rr_tabOut 92 (pc := 20) B dX8_deed_20 (by omega) b3 (by decide) ?_
        refine rr_aload0 (pc := 92) B dX8_deed_92 ?_
        refine rr_getR (pc := 93) B dX8_deed_93 fl_8_27 or_8_2 ?_
        refine rr_getR (pc := 96) B dX8_deed_96 fl_8_120 or_0_4 ?_
        refine rr_iload1 (pc := 99) B dX8_deed_99 ?_
        refine rr_ialoadE (pc := 100) B dX8_deed_100 sa_14 (by omega) ((A.2.1 _ (by omega) (by omega)).2.2.2.2) (fun b4 => ?_)
        refine rr_ireturn (pc := 101) B Br dX8_deed_101 ⟨congrArg (fun z => some (aI z)) ?_, ?_⟩
        · unfold vDeed dOf; first | (rw [if_neg (by omega)]; done) | (rw [if_pos (by omega)]; repeat (first | rw [if_pos (by omega)] | rw [if_neg (by omega)]))
        · exact ⟨H0, mo_r M⟩
    · replace b2 := of_decide_eq_false b2
      refine rr_bipush (z := (-2)) (pc := 16) B dX8_deed_16 (by decide) ?_
      refine rr_ireturn (pc := 18) B Br dX8_deed_18 ⟨congrArg (fun z => some (aI z)) ?_, ?_⟩
      · unfold vDeed dOf; first | (rw [if_neg (by omega)]; done) | (rw [if_pos (by omega)]; repeat (first | rw [if_pos (by omega)] | rw [if_neg (by omega)]))
      · exact ⟨H0, mo_r M⟩
set_option maxHeartbeats 4000000 in
set_option maxRecDepth 100000 in
theorem ct_X8_rule (g : ax_G) (M : ax_M) (k w : Int) (S : ax_M) (H0 : RC S M) (H1 : SI S) (H2 : SR S) (H3 : -2147483648 ≤ k ∧ k ≤ 2147483647 ∧ -2147483648 ≤ w ∧ w ≤ 2147483647) : CT g md_X8_rule 1 [aR 8, aI k, aI w] M (pIR (vRule S k w) (fun M2 => RC (S) M2 ∧ mo M M2)) := by
  refine ct_intro 1 rfl rfl ?_
  intro X hg B Br
  subst hg
  show AW X 0 [some (aR 8), some (aI k), some (aI w), none] [] M
  refine rr_rg (fun G0 => ?_)
  have A := RC_ag H2 H0
  have N8 := vw_n8 H2
  refine rr_iload1 (pc := 0) B dX8_rule_0 ?_
  refine rr_iconst (z := 3) (pc := 1) B dX8_rule_1 ?_
  refine rc_SI2 (pc := 2) B dX8_rule_2 st_X8_within lk_8_74 (ct_X8_within _ _ _ _  (by omega)) (Nat.le_of_ble_eq_true rfl) (Nat.le_of_ble_eq_true rfl) ?_
  refine rr_if_eqB 16 (pc := 5) B dX8_rule_5 (by decide) (fun b1 => ?_) (fun b1 => ?_)
  · replace b1 := of_decide_eq_false b1
    refine rr_bipush (z := (-2)) (pc := 16) B dX8_rule_16 (by decide) ?_
    refine rr_ireturn (pc := 18) B Br dX8_rule_18 ⟨congrArg (fun z => some (aI z)) ?_, ?_⟩
    · unfold vRule; rw [if_neg (by omega)]
    · exact ⟨H0, mo_r M⟩
  · replace b1 := of_decide_eq_true b1
    refine rr_iload2 (pc := 8) B dX8_rule_8 ?_
    refine rr_iconst (z := 2) (pc := 9) B dX8_rule_9 ?_
    refine rc_SI2 (pc := 10) B dX8_rule_10 st_X8_within lk_8_74 (ct_X8_within _ _ _ _  (by omega)) (Nat.le_of_ble_eq_true rfl) (Nat.le_of_ble_eq_true rfl) ?_
    refine rr_if_neB 19 (pc := 13) B dX8_rule_13 (by decide) (fun b2 => ?_) (fun b2 => ?_)
    · replace b2 := of_decide_eq_true b2
      refine rr_iload2 (pc := 19) B dX8_rule_19 ?_
      refine rr_if_ne 32 (pc := 20) B dX8_rule_20 (by decide) (by omega) (fun b3 => ?_) (fun b3 => ?_)
      · refine rr_iload2 (pc := 32) B dX8_rule_32 ?_
        refine rr_iconst (z := 1) (pc := 33) B dX8_rule_33 ?_
        refine rr_icmp_ne 48 (pc := 34) B dX8_rule_34 (by decide) (by omega) (fun b4 => ?_) (fun b4 => ?_)
        · refine rr_aload0 (pc := 48) B dX8_rule_48 ?_
          refine rr_getR (pc := 49) B dX8_rule_49 fl_8_34 or_8_3 ?_
          refine rr_iload1 (pc := 52) B dX8_rule_52 ?_
          refine rc_VI1 (pc := 53) B dX8_rule_53 vm_X5_asksPlace lk_8_129 so_5 rfl (ct_X5_asksPlace _ _ _  (by omega)) (Nat.le_of_ble_eq_true rfl) (Nat.le_of_ble_eq_true rfl) ?_
          refine rr_istore3 (pc := 56) B dX8_rule_56 rfl ?_
          refine rr_iload3 (pc := 57) B dX8_rule_57 ?_
          refine rr_if_eqB 65 (pc := 58) B dX8_rule_58 (by decide) (fun b5 => ?_) (fun b5 => ?_)
          · replace b5 := of_decide_eq_false b5
            refine rr_iconst (z := 0) (pc := 65) B dX8_rule_65 ?_
            refine rr_ireturn (pc := 66) B Br dX8_rule_66 ⟨congrArg (fun z => some (aI z)) ?_, ?_⟩
            · unfold vRule rOf; rw [if_pos (by omega), if_neg (by omega)]
              have z := A.2.2.2.2.2 k (by omega) (by omega)
              have y := RC_r5 G0 H0 k (by omega)
              by_cases q1 : w = 1
              · rw [if_pos q1]; first | (exfalso; omega) | exact (z.2.1.mp b5).symm | exact (y.1.resolve_right (fun q => b5 (z.2.1.mpr q))).symm
              · rw [if_neg q1]; first | (exfalso; omega) | exact (z.2.2.mp b5).symm | exact (y.2.resolve_right (fun q => b5 (z.2.2.mpr q))).symm
            · exact ⟨H0, mo_r M⟩
          · replace b5 := of_decide_eq_true b5
            refine rr_iconst (z := 1) (pc := 61) B dX8_rule_61 ?_
            refine rr_goto 66 (pc := 62) B dX8_rule_62 (by decide) ?_
            refine rr_ireturn (pc := 66) B Br dX8_rule_66 ⟨congrArg (fun z => some (aI z)) ?_, ?_⟩
            · unfold vRule rOf; rw [if_pos (by omega), if_neg (by omega)]
              have z := A.2.2.2.2.2 k (by omega) (by omega)
              have y := RC_r5 G0 H0 k (by omega)
              by_cases q1 : w = 1
              · rw [if_pos q1]; first | (exfalso; omega) | exact (z.2.1.mp b5).symm | exact (y.1.resolve_right (fun q => b5 (z.2.1.mpr q))).symm
              · rw [if_neg q1]; first | (exfalso; omega) | exact (z.2.2.mp b5).symm | exact (y.2.resolve_right (fun q => b5 (z.2.2.mpr q))).symm
            · exact ⟨H0, mo_r M⟩
        · refine rr_aload0 (pc := 37) B dX8_rule_37 ?_
          refine rr_getR (pc := 38) B dX8_rule_38 fl_8_34 or_8_3 ?_
          refine rr_iload1 (pc := 41) B dX8_rule_41 ?_
          refine rc_VI1 (pc := 42) B dX8_rule_42 vm_X5_asksWeather lk_8_126 so_5 rfl (ct_X5_asksWeather _ _ _  (by omega)) (Nat.le_of_ble_eq_true rfl) (Nat.le_of_ble_eq_true rfl) ?_
          refine rr_goto 56 (pc := 45) B dX8_rule_45 (by decide) ?_
          refine rr_istore3 (pc := 56) B dX8_rule_56 rfl ?_
          refine rr_iload3 (pc := 57) B dX8_rule_57 ?_
          refine rr_if_eqB 65 (pc := 58) B dX8_rule_58 (by decide) (fun b5 => ?_) (fun b5 => ?_)
          · replace b5 := of_decide_eq_false b5
            refine rr_iconst (z := 0) (pc := 65) B dX8_rule_65 ?_
            refine rr_ireturn (pc := 66) B Br dX8_rule_66 ⟨congrArg (fun z => some (aI z)) ?_, ?_⟩
            · unfold vRule rOf; rw [if_pos (by omega), if_neg (by omega)]
              have z := A.2.2.2.2.2 k (by omega) (by omega)
              have y := RC_r5 G0 H0 k (by omega)
              by_cases q1 : w = 1
              · rw [if_pos q1]; first | (exfalso; omega) | exact (z.2.1.mp b5).symm | exact (y.1.resolve_right (fun q => b5 (z.2.1.mpr q))).symm
              · rw [if_neg q1]; first | (exfalso; omega) | exact (z.2.2.mp b5).symm | exact (y.2.resolve_right (fun q => b5 (z.2.2.mpr q))).symm
            · exact ⟨H0, mo_r M⟩
          · replace b5 := of_decide_eq_true b5
            refine rr_iconst (z := 1) (pc := 61) B dX8_rule_61 ?_
            refine rr_goto 66 (pc := 62) B dX8_rule_62 (by decide) ?_
            refine rr_ireturn (pc := 66) B Br dX8_rule_66 ⟨congrArg (fun z => some (aI z)) ?_, ?_⟩
            · unfold vRule rOf; rw [if_pos (by omega), if_neg (by omega)]
              have z := A.2.2.2.2.2 k (by omega) (by omega)
              have y := RC_r5 G0 H0 k (by omega)
              by_cases q1 : w = 1
              · rw [if_pos q1]; first | (exfalso; omega) | exact (z.2.1.mp b5).symm | exact (y.1.resolve_right (fun q => b5 (z.2.1.mpr q))).symm
              · rw [if_neg q1]; first | (exfalso; omega) | exact (z.2.2.mp b5).symm | exact (y.2.resolve_right (fun q => b5 (z.2.2.mpr q))).symm
            · exact ⟨H0, mo_r M⟩
      · refine rr_aload0 (pc := 23) B dX8_rule_23 ?_
        refine rr_getR (pc := 24) B dX8_rule_24 fl_8_34 or_8_3 ?_
        refine rr_iload1 (pc := 27) B dX8_rule_27 ?_
        refine rc_VI1 (pc := 28) B dX8_rule_28 vm_X5_needOf lk_8_123 so_5 rfl (ct_X5_needOf _ _ _  (by omega)) (Nat.le_of_ble_eq_true rfl) (Nat.le_of_ble_eq_true rfl) ?_
        refine rr_ireturn (pc := 31) B Br dX8_rule_31 ⟨congrArg (fun z => some (aI z)) ?_, ?_⟩
        · refine (A.2.2.2.2.2 k (by omega) (by omega)).1.trans ?_; unfold vRule rOf; rw [if_pos (by omega), if_pos (by omega)]
        · exact ⟨H0, mo_r M⟩
    · replace b2 := of_decide_eq_false b2
      refine rr_bipush (z := (-2)) (pc := 16) B dX8_rule_16 (by decide) ?_
      refine rr_ireturn (pc := 18) B Br dX8_rule_18 ⟨congrArg (fun z => some (aI z)) ?_, ?_⟩
      · unfold vRule; rw [if_neg (by omega)]
      · exact ⟨H0, mo_r M⟩
set_option maxHeartbeats 4000000 in
set_option maxRecDepth 100000 in
theorem ct_X8_person (g : ax_G) (M : ax_M) (p w v : Int) (S : ax_M) (H0 : RC S M) (H1 : SI S) (H2 : SR S) (H3 : -2147483648 ≤ p ∧ p ≤ 2147483647 ∧ -2147483648 ≤ w ∧ w ≤ 2147483647 ∧ -2147483648 ≤ v ∧ v ≤ 2147483647) : CT g md_X8_person 1 [aR 8, aI p, aI w, aI v] M (pIR (vPers S p w v) (fun M2 => RC (sPers S p w v) M2 ∧ mo M M2)) := by
  refine ct_intro 0 rfl rfl ?_
  intro X hg B Br
  subst hg
  show AW X 0 [some (aR 8), some (aI p), some (aI w), some (aI v)] [] M
  refine rr_rg (fun G0 => ?_)
  refine rr_iload1 (pc := 0) B dX8_person_0 ?_
  refine rr_bipush (z := 7) (pc := 1) B dX8_person_1 (by decide) ?_
  refine rc_SI2 (pc := 3) B dX8_person_3 st_X8_within lk_8_74 (ct_X8_within _ _ _ _  (by omega)) (Nat.le_of_ble_eq_true rfl) (Nat.le_of_ble_eq_true rfl) ?_
  refine rr_if_eqB 29 (pc := 6) B dX8_person_6 (by decide) (fun b1 => ?_) (fun b1 => ?_)
  · replace b1 := of_decide_eq_false b1
    refine rr_bipush (z := (-2)) (pc := 29) B dX8_person_29 (by decide) ?_
    refine rr_ireturn (pc := 31) B Br dX8_person_31 ⟨congrArg (fun z => some (aI z)) ?_, ?_⟩
    · unfold vPers; rw [if_neg (by first | omega | (have T := tm_v (w := w) (by omega); omega))]
    · unfold sPers; rw [if_neg (by first | omega | (have T := tm_v (w := w) (by omega); omega))]; exact ⟨H0, mo_r M⟩
  · replace b1 := of_decide_eq_true b1
    refine rr_iload2 (pc := 9) B dX8_person_9 ?_
    refine rr_iconst (z := 3) (pc := 10) B dX8_person_10 ?_
    refine rc_SI2 (pc := 11) B dX8_person_11 st_X8_within lk_8_74 (ct_X8_within _ _ _ _  (by omega)) (Nat.le_of_ble_eq_true rfl) (Nat.le_of_ble_eq_true rfl) ?_
    refine rr_if_eqB 29 (pc := 14) B dX8_person_14 (by decide) (fun b2 => ?_) (fun b2 => ?_)
    · replace b2 := of_decide_eq_false b2
      refine rr_bipush (z := (-2)) (pc := 29) B dX8_person_29 (by decide) ?_
      refine rr_ireturn (pc := 31) B Br dX8_person_31 ⟨congrArg (fun z => some (aI z)) ?_, ?_⟩
      · unfold vPers; rw [if_neg (by first | omega | (have T := tm_v (w := w) (by omega); omega))]
      · unfold sPers; rw [if_neg (by first | omega | (have T := tm_v (w := w) (by omega); omega))]; exact ⟨H0, mo_r M⟩
    · replace b2 := of_decide_eq_true b2
      refine rr_iload3 (pc := 17) B dX8_person_17 ?_
      refine rr_gets (pc := 18) B dX8_person_18 B.2.2.2.2.2.2.1.1 (ax_in 491 (by decide +kernel) rfl) ?_
      refine rr_iload2 (pc := 21) B dX8_person_21 ?_
      refine rr_ti (pc := 22) B dX8_person_22 B.2.2.2.2.2.2.1.1 (by decide) (by have T := tm_v (w := w) (by omega); omega) ?_
      refine rc_SI2 (pc := 23) B dX8_person_23 st_X8_within lk_8_74 (ct_X8_within _ _ _ _  (by first | omega | (have T := tm_v (w := w) (by omega); omega))) (Nat.le_of_ble_eq_true rfl) (Nat.le_of_ble_eq_true rfl) ?_
      refine rr_if_neB 32 (pc := 26) B dX8_person_26 (by decide) (fun b3 => ?_) (fun b3 => ?_)
      · replace b3 := of_decide_eq_true b3
        refine rr_aload0 (pc := 32) B dX8_person_32 ?_
        refine rc_VV0 (pc := 33) B dX8_person_33 vm_X8_nightChanged lk_8_87 so_8 rfl (ct_X8_nightChanged _ _   ) (Nat.le_of_ble_eq_true rfl) (Nat.le_of_ble_eq_true rfl) ?_
        refine rr_aload0 (pc := 36) B dX8_person_36 ?_
        refine rr_getR (pc := 37) B dX8_person_37 fl_8_41 or_8_4 ?_
        refine rr_iload1 (pc := 40) B dX8_person_40 ?_
        refine rr_iload2 (pc := 41) B dX8_person_41 ?_
        refine rr_iload3 (pc := 42) B dX8_person_42 ?_
        refine rc_VI3 (pc := 43) B dX8_person_43 vm_X1_changeTrait lk_8_137 so_1 rfl (ct_X1_changeTrait _ _ _ _ _  (by first | omega | (have T := tm_v (w := w) (by omega); omega)) (by first | omega | (have T := tm_v (w := w) (by omega); omega)) (by first | omega | (have T := tm_v (w := w) (by omega); omega))) (Nat.le_of_ble_eq_true rfl) (Nat.le_of_ble_eq_true rfl) ?_
        refine rr_ireturn (pc := 46) B Br dX8_person_46 ⟨congrArg (fun z => some (aI z)) ?_, ?_⟩
        · have T := tm_v (w := w) (by omega)
          unfold vPers; rw [if_pos (by omega)]
          have z := H0.2.1.1 p (by omega) (by omega)
          rcases (show w = 0 ∨ w = 1 ∨ w = 2 ∨ w = 3 by omega) with rfl | rfl | rfl | rfl
          · exact z.1
          · exact z.2.1
          · exact z.2.2.1
          · exact z.2.2.2
        · have T := tm_v (w := w) (by omega)
          unfold sPers; rw [if_pos (by omega)]
          exact ⟨RC_pe H0 (by omega) (by omega), mo_m (mo_nc M) (by decide)⟩
      · replace b3 := of_decide_eq_false b3
        refine rr_bipush (z := (-2)) (pc := 29) B dX8_person_29 (by decide) ?_
        refine rr_ireturn (pc := 31) B Br dX8_person_31 ⟨congrArg (fun z => some (aI z)) ?_, ?_⟩
        · unfold vPers; rw [if_neg (by first | omega | (have T := tm_v (w := w) (by omega); omega))]
        · unfold sPers; rw [if_neg (by first | omega | (have T := tm_v (w := w) (by omega); omega))]; exact ⟨H0, mo_r M⟩
set_option maxHeartbeats 4000000 in
set_option maxRecDepth 100000 in
theorem ct_X8_weather (g : ax_G) (M : ax_M) (h v : Int) (S : ax_M) (H0 : RC S M) (H1 : SI S) (H2 : SR S) (H3 : -2147483648 ≤ h ∧ h ≤ 2147483647 ∧ -2147483648 ≤ v ∧ v ≤ 2147483647) : CT g md_X8_weather 1 [aR 8, aI h, aI v] M (pIR (vWea S h v) (fun M2 => RC (sWea S h v) M2 ∧ mo M M2)) := by
  refine ct_intro 0 rfl rfl ?_
  intro X hg B Br
  subst hg
  show AW X 0 [some (aR 8), some (aI h), some (aI v)] [] M
  refine rr_rg (fun G0 => ?_)
  refine rr_iload1 (pc := 0) B dX8_weather_0 ?_
  refine rr_bipush (z := 7) (pc := 1) B dX8_weather_1 (by decide) ?_
  refine rc_SI2 (pc := 3) B dX8_weather_3 st_X8_within lk_8_74 (ct_X8_within _ _ _ _  (by omega)) (Nat.le_of_ble_eq_true rfl) (Nat.le_of_ble_eq_true rfl) ?_
  refine rr_if_eqB 17 (pc := 6) B dX8_weather_6 (by decide) (fun b1 => ?_) (fun b1 => ?_)
  · replace b1 := of_decide_eq_false b1
    refine rr_bipush (z := (-2)) (pc := 17) B dX8_weather_17 (by decide) ?_
    refine rr_ireturn (pc := 19) B Br dX8_weather_19 ⟨congrArg (fun z => some (aI z)) ?_, ?_⟩
    · unfold vWea; rw [if_neg (by omega)]
    · unfold sWea; rw [if_neg (by omega)]; exact ⟨H0, mo_r M⟩
  · replace b1 := of_decide_eq_true b1
    refine rr_iload2 (pc := 9) B dX8_weather_9 ?_
    refine rr_iconst (z := 1) (pc := 10) B dX8_weather_10 ?_
    refine rc_SI2 (pc := 11) B dX8_weather_11 st_X8_within lk_8_74 (ct_X8_within _ _ _ _  (by omega)) (Nat.le_of_ble_eq_true rfl) (Nat.le_of_ble_eq_true rfl) ?_
    refine rr_if_neB 20 (pc := 14) B dX8_weather_14 (by decide) (fun b2 => ?_) (fun b2 => ?_)
    · replace b2 := of_decide_eq_true b2
      refine rr_aload0 (pc := 20) B dX8_weather_20 ?_
      refine rc_VV0 (pc := 21) B dX8_weather_21 vm_X8_nightChanged lk_8_87 so_8 rfl (ct_X8_nightChanged _ _   ) (Nat.le_of_ble_eq_true rfl) (Nat.le_of_ble_eq_true rfl) ?_
      refine rr_aload0 (pc := 24) B dX8_weather_24 ?_
      refine rr_getR (pc := 25) B dX8_weather_25 fl_8_41 or_8_4 ?_
      refine rr_iload1 (pc := 28) B dX8_weather_28 ?_
      refine rr_iload2 (pc := 29) B dX8_weather_29 ?_
      refine rc_VI2 (pc := 30) B dX8_weather_30 vm_X1_changeSky lk_8_141 so_1 rfl (ct_X1_changeSky _ _ _ _  (by omega) (by omega)) (Nat.le_of_ble_eq_true rfl) (Nat.le_of_ble_eq_true rfl) ?_
      refine rr_ireturn (pc := 33) B Br dX8_weather_33 ⟨congrArg (fun z => some (aI z)) ?_, ?_⟩
      · unfold vWea; rw [if_pos (by omega)]; exact H0.2.1.2.1 h (by omega) (by omega)
      · unfold sWea; rw [if_pos (by omega)]; exact ⟨RC_we H0, mo_m (mo_nc M) (by decide)⟩
    · replace b2 := of_decide_eq_false b2
      refine rr_bipush (z := (-2)) (pc := 17) B dX8_weather_17 (by decide) ?_
      refine rr_ireturn (pc := 19) B Br dX8_weather_19 ⟨congrArg (fun z => some (aI z)) ?_, ?_⟩
      · unfold vWea; rw [if_neg (by omega)]
      · unfold sWea; rw [if_neg (by omega)]; exact ⟨H0, mo_r M⟩
set_option maxHeartbeats 4000000 in
set_option maxRecDepth 100000 in
theorem ct_X8_set (g : ax_G) (M : ax_M) (w v : Int) (S : ax_M) (H0 : RC S M) (H1 : SI S) (H2 : SR S) (H3 : -2147483648 ≤ w ∧ w ≤ 2147483647 ∧ -2147483648 ≤ v ∧ v ≤ 2147483647) : CT g md_X8_set 1 [aR 8, aI w, aI v] M (pIR (vSet S w v) (fun M2 => RC (sSet S w v) M2 ∧ mo M M2)) := by
  refine ct_intro 0 rfl rfl ?_
  intro X hg B Br
  subst hg
  show AW X 0 [some (aR 8), some (aI w), some (aI v)] [] M
  refine rr_rg (fun G0 => ?_)
  refine rr_iload1 (pc := 0) B dX8_set_0 ?_
  refine rr_iconst (z := 3) (pc := 1) B dX8_set_1 ?_
  refine rc_SI2 (pc := 2) B dX8_set_2 st_X8_within lk_8_74 (ct_X8_within _ _ _ _  (by omega)) (Nat.le_of_ble_eq_true rfl) (Nat.le_of_ble_eq_true rfl) ?_
  refine rr_if_eqB 20 (pc := 5) B dX8_set_5 (by decide) (fun b1 => ?_) (fun b1 => ?_)
  · replace b1 := of_decide_eq_false b1
    refine rr_bipush (z := (-2)) (pc := 20) B dX8_set_20 (by decide) ?_
    refine rr_ireturn (pc := 22) B Br dX8_set_22 ⟨congrArg (fun z => some (aI z)) ?_, ?_⟩
    · unfold vSet; rw [if_neg (by first | omega | (have T := sm_v (w := w) (by omega); omega))]
    · unfold sSet; rw [if_neg (by first | omega | (have T := sm_v (w := w) (by omega); omega))]; exact ⟨H0, mo_r M⟩
  · replace b1 := of_decide_eq_true b1
    refine rr_iload2 (pc := 8) B dX8_set_8 ?_
    refine rr_gets (pc := 9) B dX8_set_9 B.2.2.2.2.2.2.1.2.1 (ax_in 509 (by decide +kernel) rfl) ?_
    refine rr_iload1 (pc := 12) B dX8_set_12 ?_
    refine rr_ti (pc := 13) B dX8_set_13 B.2.2.2.2.2.2.1.2.1 (by decide) (by have T := sm_v (w := w) (by omega); omega) ?_
    refine rc_SI2 (pc := 14) B dX8_set_14 st_X8_within lk_8_74 (ct_X8_within _ _ _ _  (by first | omega | (have T := sm_v (w := w) (by omega); omega))) (Nat.le_of_ble_eq_true rfl) (Nat.le_of_ble_eq_true rfl) ?_
    refine rr_if_neB 23 (pc := 17) B dX8_set_17 (by decide) (fun b2 => ?_) (fun b2 => ?_)
    · replace b2 := of_decide_eq_true b2
      refine rr_aload0 (pc := 23) B dX8_set_23 ?_
      refine rc_VV0 (pc := 24) B dX8_set_24 vm_X8_nightChanged lk_8_87 so_8 rfl (ct_X8_nightChanged _ _   ) (Nat.le_of_ble_eq_true rfl) (Nat.le_of_ble_eq_true rfl) ?_
      refine rr_aload0 (pc := 27) B dX8_set_27 ?_
      refine rr_getR (pc := 28) B dX8_set_28 fl_8_41 or_8_4 ?_
      refine rr_iload1 (pc := 31) B dX8_set_31 ?_
      refine rr_iload2 (pc := 32) B dX8_set_32 ?_
      refine rc_VI2 (pc := 33) B dX8_set_33 vm_X1_changeSetting lk_8_148 so_1 rfl (ct_X1_changeSetting _ _ _ _  (by first | omega | (have T := sm_v (w := w) (by omega); omega)) (by first | omega | (have T := sm_v (w := w) (by omega); omega))) (Nat.le_of_ble_eq_true rfl) (Nat.le_of_ble_eq_true rfl) ?_
      refine rr_ireturn (pc := 36) B Br dX8_set_36 ⟨congrArg (fun z => some (aI z)) ?_, ?_⟩
      · have T := sm_v (w := w) (by omega)
        unfold vSet; rw [if_pos (by omega)]; exact H0.2.1.2.2 w (by omega) (by omega)
      · have T := sm_v (w := w) (by omega)
        unfold sSet; rw [if_pos (by omega)]; exact ⟨RC_se H0, mo_m (mo_nc M) (by decide)⟩
    · replace b2 := of_decide_eq_false b2
      refine rr_bipush (z := (-2)) (pc := 20) B dX8_set_20 (by decide) ?_
      refine rr_ireturn (pc := 22) B Br dX8_set_22 ⟨congrArg (fun z => some (aI z)) ?_, ?_⟩
      · unfold vSet; rw [if_neg (by first | omega | (have T := sm_v (w := w) (by omega); omega))]
      · unfold sSet; rw [if_neg (by first | omega | (have T := sm_v (w := w) (by omega); omega))]; exact ⟨H0, mo_r M⟩
