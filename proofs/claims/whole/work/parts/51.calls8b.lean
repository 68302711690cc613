set_option maxHeartbeats 4000000 in
set_option maxRecDepth 100000 in
theorem ct_X8_reckonOffers (g : ax_G) (M : ax_M) (S : ax_M) (H0 : RC S M) (H1 : SI S) (H2 : SR S) : CT g md_X8_reckonOffers 3 [aR 8] M (pVR (fun M2 => RC S M2 ∧ mo M M2 ∧ M2 8 9 = 0)) := by
  refine ct_intro 0 rfl rfl ?_
  intro X hg B Br
  subst hg
  show AW X 0 [some (aR 8)] [] M
  refine rr_rg (fun G0 => ?_)
  refine rr_aload0 (pc := 0) B dX8_reckonOffers_0 ?_
  refine rr_getI (pc := 1) B dX8_reckonOffers_1 fl_8_67 ob_8_9 (fun b1 => ?_)
  refine rr_if_eq 19 (pc := 4) B dX8_reckonOffers_4 (by decide) (by omega) (fun b2 => ?_) (fun b2 => ?_)
  · refine rr_return (pc := 19) B Br dX8_reckonOffers_19 ⟨rfl, ?_⟩
    · first | exact RC_off H0 (by omega) b3.1 b3.2 | exact ⟨H0, mo_r M, by omega⟩
  · refine rr_aload0 (pc := 7) B dX8_reckonOffers_7 ?_
    refine rr_getR (pc := 8) B dX8_reckonOffers_8 fl_8_20 or_8_1 ?_
    refine rc_VVR0 (pc := 11) B dX8_reckonOffers_11 vm_X2_reckon lk_8_379 so_2 rfl (ct_X2_reckon _ _  (vw S) (RC_ag H2 H0) (by exact ⟨(H2 60 1 rfl).1, H1.2⟩)) (Nat.le_of_ble_eq_true rfl) (Nat.le_of_ble_eq_true rfl) (fun Mb3 b3 => ?_)
    refine rr_aload0 (pc := 14) B dX8_reckonOffers_14 ?_
    refine rr_iconst (z := 0) (pc := 15) B dX8_reckonOffers_15 ?_
    refine rr_putZ (pc := 16) B dX8_reckonOffers_16 fl_8_67 ob_8_9 fi_8_9 (by omega) (by omega) ?_
    refine rr_return (pc := 19) B Br dX8_reckonOffers_19 ⟨rfl, ?_⟩
    · first | exact RC_off H0 (by omega) b3.1 b3.2 | exact ⟨H0, mo_r M, by omega⟩
set_option maxHeartbeats 4000000 in
set_option maxRecDepth 100000 in
theorem ct_X8_reckonPlan (g : ax_G) (M : ax_M) (S : ax_M) (H0 : RC S M) (H1 : SI S) (H2 : SR S) : CT g md_X8_reckonPlan 4 [aR 8] M (pVR (fun M2 => RC S M2 ∧ mo M M2 ∧ M2 8 9 = 0 ∧ M2 8 10 = 0)) := by
  refine ct_intro 0 rfl rfl ?_
  intro X hg B Br
  subst hg
  show AW X 0 [some (aR 8)] [] M
  refine rr_rg (fun G0 => ?_)
  refine rr_aload0 (pc := 0) B dX8_reckonPlan_0 ?_
  refine rc_VVR0 (pc := 1) B dX8_reckonPlan_1 vm_X8_reckonOffers lk_8_175 so_8 rfl (ct_X8_reckonOffers _ _  _ (by first | exact H0 | exact H1 | exact H2 | omega) (by first | exact H0 | exact H1 | exact H2 | omega) (by first | exact H0 | exact H1 | exact H2 | omega)) (Nat.le_of_ble_eq_true rfl) (Nat.le_of_ble_eq_true rfl) (fun Mb1 b1 => ?_)
  refine rr_aload0 (pc := 4) B dX8_reckonPlan_4 ?_
  refine rr_getI (pc := 5) B dX8_reckonPlan_5 fl_8_71 ob_8_10 (fun b2 => ?_)
  refine rr_if_eq 23 (pc := 8) B dX8_reckonPlan_8 (by decide) (by omega) (fun b3 => ?_) (fun b3 => ?_)
  · refine rr_return (pc := 23) B Br dX8_reckonPlan_23 ⟨rfl, ?_⟩
    · first | (have z := RC_pln b1.1 b1.2.2 b4.1 b4.2; exact ⟨z.1, mo_t b1.2.1 z.2.1, z.2.2⟩) | exact ⟨b1.1, b1.2.1, b1.2.2, by omega⟩
  · refine rr_aload0 (pc := 11) B dX8_reckonPlan_11 ?_
    refine rr_getR (pc := 12) B dX8_reckonPlan_12 fl_8_10 or_8_0 ?_
    refine rc_VVR0 (pc := 15) B dX8_reckonPlan_15 vm_X4_reckon lk_8_382 so_4 rfl (ct_X4_reckon _ _  (vw S) (RC_ag H2 b1.1) (RC_RO b1.1 b1.2.2)) (Nat.le_of_ble_eq_true rfl) (Nat.le_of_ble_eq_true rfl) (fun Mb4 b4 => ?_)
    refine rr_aload0 (pc := 18) B dX8_reckonPlan_18 ?_
    refine rr_iconst (z := 0) (pc := 19) B dX8_reckonPlan_19 ?_
    refine rr_putZ (pc := 20) B dX8_reckonPlan_20 fl_8_71 ob_8_10 fi_8_10 (by omega) (by omega) ?_
    refine rr_return (pc := 23) B Br dX8_reckonPlan_23 ⟨rfl, ?_⟩
    · first | (have z := RC_pln b1.1 b1.2.2 b4.1 b4.2; exact ⟨z.1, mo_t b1.2.1 z.2.1, z.2.2⟩) | exact ⟨b1.1, b1.2.1, b1.2.2, by omega⟩
set_option maxHeartbeats 4000000 in
set_option maxRecDepth 100000 in
theorem ct_X8_can (g : ax_G) (M : ax_M) (d h : Int) (S : ax_M) (H0 : RC S M) (H1 : SI S) (H2 : SR S) (H3 : -2147483648 ≤ d ∧ d ≤ 2147483647 ∧ -2147483648 ≤ h ∧ h ≤ 2147483647) : CT g md_X8_can 4 [aR 8, aI d, aI h] M (pIR (vCan S d h) (fun M2 => RC (S) M2 ∧ mo M M2)) := by
  refine ct_intro 0 rfl rfl ?_
  intro X hg B Br
  subst hg
  show AW X 0 [some (aR 8), some (aI d), some (aI h)] [] M
  refine rr_rg (fun G0 => ?_)
  refine rr_aload0 (pc := 0) B dX8_can_0 ?_
  refine rr_iload1 (pc := 1) B dX8_can_1 ?_
  refine rc_VI1 (pc := 2) B dX8_can_2 vm_X8_isDeed lk_8_104 so_8 rfl (ct_X8_isDeed _ _ _ _ (by first | exact H0 | exact H1 | exact H2 | omega) (by first | exact H0 | exact H1 | exact H2 | omega)) (Nat.le_of_ble_eq_true rfl) (Nat.le_of_ble_eq_true rfl) ?_
  refine rr_if_eqB 17 (pc := 5) B dX8_can_5 (by decide) (fun b1 => ?_) (fun b1 => ?_)
  · replace b1 := of_decide_eq_false b1
    refine rr_bipush (z := (-2)) (pc := 17) B dX8_can_17 (by decide) ?_
    refine rr_ireturn (pc := 19) B Br dX8_can_19 ⟨congrArg (fun z => some (aI z)) ?_, ?_⟩
    · unfold vCan; rw [if_neg (by omega)]
    · first | exact ⟨b3.1, b3.2.1⟩ | exact ⟨H0, mo_r M⟩
  · replace b1 := of_decide_eq_true b1
    refine rr_iload2 (pc := 8) B dX8_can_8 ?_
    refine rr_bipush (z := 7) (pc := 9) B dX8_can_9 (by decide) ?_
    refine rc_SI2 (pc := 11) B dX8_can_11 st_X8_within lk_8_74 (ct_X8_within _ _ _ _  (by first | exact H0 | exact H1 | exact H2 | omega)) (Nat.le_of_ble_eq_true rfl) (Nat.le_of_ble_eq_true rfl) ?_
    refine rr_if_neB 20 (pc := 14) B dX8_can_14 (by decide) (fun b2 => ?_) (fun b2 => ?_)
    · replace b2 := of_decide_eq_true b2
      refine rr_aload0 (pc := 20) B dX8_can_20 ?_
      refine rc_VVR0 (pc := 21) B dX8_can_21 vm_X8_reckonOffers lk_8_175 so_8 rfl (ct_X8_reckonOffers _ _  _ (by first | exact H0 | exact H1 | exact H2 | omega) (by first | exact H0 | exact H1 | exact H2 | omega) (by first | exact H0 | exact H1 | exact H2 | omega)) (Nat.le_of_ble_eq_true rfl) (Nat.le_of_ble_eq_true rfl) (fun Mb3 b3 => ?_)
      refine rr_aload0 (pc := 24) B dX8_can_24 ?_
      refine rr_getR (pc := 25) B dX8_can_25 fl_8_20 or_8_1 ?_
      refine rr_iload1 (pc := 28) B dX8_can_28 ?_
      refine rr_iload2 (pc := 29) B dX8_can_29 ?_
      refine rc_VI2 (pc := 30) B dX8_can_30 vm_X2_isOpen lk_8_178 so_2 rfl (ct_X2_isOpen _ _ _ _ (vw S) (RC_ag H2 b3.1) (RC_RO b3.1 b3.2.2) (by first | exact H0 | exact H1 | exact H2 | omega) (by first | exact H0 | exact H1 | exact H2 | omega)) (Nat.le_of_ble_eq_true rfl) (Nat.le_of_ble_eq_true rfl) ?_
      refine rr_if_eqB 40 (pc := 33) B dX8_can_33 (by decide) (fun b4 => ?_) (fun b4 => ?_)
      · replace b4 := of_decide_eq_false b4
        refine rr_iconst (z := 0) (pc := 40) B dX8_can_40 ?_
        refine rr_ireturn (pc := 41) B Br dX8_can_41 ⟨congrArg (fun z => some (aI z)) ?_, ?_⟩
        · unfold vCan; rw [if_pos (by omega)]; first | (rw [decide_eq_true b4]; rfl) | (rw [decide_eq_false b4]; rfl)
        · first | exact ⟨b3.1, b3.2.1⟩ | exact ⟨H0, mo_r M⟩
      · replace b4 := of_decide_eq_true b4
        refine rr_iconst (z := 1) (pc := 36) B dX8_can_36 ?_
        refine rr_goto 41 (pc := 37) B dX8_can_37 (by decide) ?_
        refine rr_ireturn (pc := 41) B Br dX8_can_41 ⟨congrArg (fun z => some (aI z)) ?_, ?_⟩
        · unfold vCan; rw [if_pos (by omega)]; first | (rw [decide_eq_true b4]; rfl) | (rw [decide_eq_false b4]; rfl)
        · first | exact ⟨b3.1, b3.2.1⟩ | exact ⟨H0, mo_r M⟩
    · replace b2 := of_decide_eq_false b2
      refine rr_bipush (z := (-2)) (pc := 17) B dX8_can_17 (by decide) ?_
      refine rr_ireturn (pc := 19) B Br dX8_can_19 ⟨congrArg (fun z => some (aI z)) ?_, ?_⟩
      · unfold vCan; rw [if_neg (by omega)]
      · first | exact ⟨b3.1, b3.2.1⟩ | exact ⟨H0, mo_r M⟩
set_option maxHeartbeats 4000000 in
set_option maxRecDepth 100000 in
theorem ct_X8_hours (g : ax_G) (M : ax_M) (d : Int) (S : ax_M) (H0 : RC S M) (H1 : SI S) (H2 : SR S) (H3 : -2147483648 ≤ d ∧ d ≤ 2147483647) : CT g md_X8_hours 4 [aR 8, aI d] M (pIR (vHours S d) (fun M2 => RC (S) M2 ∧ mo M M2)) := by
  refine ct_intro 0 rfl rfl ?_
  intro X hg B Br
  subst hg
  show AW X 0 [some (aR 8), some (aI d)] [] M
  refine rr_rg (fun G0 => ?_)
  refine rr_aload0 (pc := 0) B dX8_hours_0 ?_
  refine rr_iload1 (pc := 1) B dX8_hours_1 ?_
  refine rc_VI1 (pc := 2) B dX8_hours_2 vm_X8_isDeed lk_8_104 so_8 rfl (ct_X8_isDeed _ _ _ _ (by first | exact H0 | exact H1 | exact H2 | omega) (by first | exact H0 | exact H1 | exact H2 | omega)) (Nat.le_of_ble_eq_true rfl) (Nat.le_of_ble_eq_true rfl) ?_
  refine rr_if_neB 11 (pc := 5) B dX8_hours_5 (by decide) (fun b1 => ?_) (fun b1 => ?_)
  · replace b1 := of_decide_eq_true b1
    refine rr_aload0 (pc := 11) B dX8_hours_11 ?_
    refine rc_VVR0 (pc := 12) B dX8_hours_12 vm_X8_reckonOffers lk_8_175 so_8 rfl (ct_X8_reckonOffers _ _  _ (by first | exact H0 | exact H1 | exact H2 | omega) (by first | exact H0 | exact H1 | exact H2 | omega) (by first | exact H0 | exact H1 | exact H2 | omega)) (Nat.le_of_ble_eq_true rfl) (Nat.le_of_ble_eq_true rfl) (fun Mb2 b2 => ?_)
    refine rr_aload0 (pc := 15) B dX8_hours_15 ?_
    refine rr_getR (pc := 16) B dX8_hours_16 fl_8_20 or_8_1 ?_
    refine rr_iload1 (pc := 19) B dX8_hours_19 ?_
    refine rc_VI1 (pc := 20) B dX8_hours_20 vm_X2_openHours lk_8_181 so_2 rfl (ct_X2_openHours _ _ _ (vw S) (RC_ag H2 b2.1) (RC_RO b2.1 b2.2.2) (by first | exact H0 | exact H1 | exact H2 | omega)) (Nat.le_of_ble_eq_true rfl) (Nat.le_of_ble_eq_true rfl) ?_
    refine rr_ireturn (pc := 23) B Br dX8_hours_23 ⟨congrArg (fun z => some (aI z)) ?_, ?_⟩
    · unfold vHours; rw [if_pos (by omega)]
    · first | exact ⟨b2.1, b2.2.1⟩ | exact ⟨H0, mo_r M⟩
  · replace b1 := of_decide_eq_false b1
    refine rr_bipush (z := (-2)) (pc := 8) B dX8_hours_8 (by decide) ?_
    refine rr_ireturn (pc := 10) B Br dX8_hours_10 ⟨congrArg (fun z => some (aI z)) ?_, ?_⟩
    · unfold vHours; rw [if_neg (by omega)]
    · first | exact ⟨b2.1, b2.2.1⟩ | exact ⟨H0, mo_r M⟩
set_option maxHeartbeats 4000000 in
set_option maxRecDepth 100000 in
theorem ct_X8_comes (g : ax_G) (M : ax_M) (d h : Int) (S : ax_M) (H0 : RC S M) (H1 : SI S) (H2 : SR S) (H3 : -2147483648 ≤ d ∧ d ≤ 2147483647 ∧ -2147483648 ≤ h ∧ h ≤ 2147483647) : CT g md_X8_comes 4 [aR 8, aI d, aI h] M (pIR (vComes S d h) (fun M2 => RC (S) M2 ∧ mo M M2)) := by
  refine ct_intro 0 rfl rfl ?_
  intro X hg B Br
  subst hg
  show AW X 0 [some (aR 8), some (aI d), some (aI h)] [] M
  refine rr_rg (fun G0 => ?_)
  refine rr_aload0 (pc := 0) B dX8_comes_0 ?_
  refine rr_iload1 (pc := 1) B dX8_comes_1 ?_
  refine rc_VI1 (pc := 2) B dX8_comes_2 vm_X8_isDeed lk_8_104 so_8 rfl (ct_X8_isDeed _ _ _ _ (by first | exact H0 | exact H1 | exact H2 | omega) (by first | exact H0 | exact H1 | exact H2 | omega)) (Nat.le_of_ble_eq_true rfl) (Nat.le_of_ble_eq_true rfl) ?_
  refine rr_if_eqB 17 (pc := 5) B dX8_comes_5 (by decide) (fun b1 => ?_) (fun b1 => ?_)
  · replace b1 := of_decide_eq_false b1
    refine rr_bipush (z := (-2)) (pc := 17) B dX8_comes_17 (by decide) ?_
    refine rr_ireturn (pc := 19) B Br dX8_comes_19 ⟨congrArg (fun z => some (aI z)) ?_, ?_⟩
    · unfold vComes; rw [if_neg (by omega)]
    · first | exact ⟨b3.1, b3.2.1⟩ | exact ⟨H0, mo_r M⟩
  · replace b1 := of_decide_eq_true b1
    refine rr_iload2 (pc := 8) B dX8_comes_8 ?_
    refine rr_bipush (z := 7) (pc := 9) B dX8_comes_9 (by decide) ?_
    refine rc_SI2 (pc := 11) B dX8_comes_11 st_X8_within lk_8_74 (ct_X8_within _ _ _ _  (by first | exact H0 | exact H1 | exact H2 | omega)) (Nat.le_of_ble_eq_true rfl) (Nat.le_of_ble_eq_true rfl) ?_
    refine rr_if_neB 20 (pc := 14) B dX8_comes_14 (by decide) (fun b2 => ?_) (fun b2 => ?_)
    · replace b2 := of_decide_eq_true b2
      refine rr_aload0 (pc := 20) B dX8_comes_20 ?_
      refine rc_VVR0 (pc := 21) B dX8_comes_21 vm_X8_reckonOffers lk_8_175 so_8 rfl (ct_X8_reckonOffers _ _  _ (by first | exact H0 | exact H1 | exact H2 | omega) (by first | exact H0 | exact H1 | exact H2 | omega) (by first | exact H0 | exact H1 | exact H2 | omega)) (Nat.le_of_ble_eq_true rfl) (Nat.le_of_ble_eq_true rfl) (fun Mb3 b3 => ?_)
      refine rr_aload0 (pc := 24) B dX8_comes_24 ?_
      refine rr_getR (pc := 25) B dX8_comes_25 fl_8_20 or_8_1 ?_
      refine rr_iload1 (pc := 28) B dX8_comes_28 ?_
      refine rr_iload2 (pc := 29) B dX8_comes_29 ?_
      refine rc_VI2 (pc := 30) B dX8_comes_30 vm_X2_isOpen lk_8_178 so_2 rfl (ct_X2_isOpen _ _ _ _ (vw S) (RC_ag H2 b3.1) (RC_RO b3.1 b3.2.2) (by first | exact H0 | exact H1 | exact H2 | omega) (by first | exact H0 | exact H1 | exact H2 | omega)) (Nat.le_of_ble_eq_true rfl) (Nat.le_of_ble_eq_true rfl) ?_
      refine rr_if_eqB 48 (pc := 33) B dX8_comes_33 (by decide) (fun b4 => ?_) (fun b4 => ?_)
      · replace b4 := of_decide_eq_false b4
        refine rr_bipush (z := (-3)) (pc := 48) B dX8_comes_48 (by decide) ?_
        refine rr_ireturn (pc := 50) B Br dX8_comes_50 ⟨congrArg (fun z => some (aI z)) ?_, ?_⟩
        · unfold vComes; rw [if_pos (by omega)]; first | (unfold whoV; rw [if_neg b4]; done) | exact (Classical.not_not.mp b4).symm
        · first | exact ⟨b3.1, b3.2.1⟩ | exact ⟨H0, mo_r M⟩
      · replace b4 := of_decide_eq_true b4
        refine rr_aload0 (pc := 36) B dX8_comes_36 ?_
        refine rr_getR (pc := 37) B dX8_comes_37 fl_8_20 or_8_1 ?_
        refine rr_iload1 (pc := 40) B dX8_comes_40 ?_
        refine rr_iload2 (pc := 41) B dX8_comes_41 ?_
        refine rc_VI2 (pc := 42) B dX8_comes_42 vm_X2_whoComes lk_8_184 so_2 rfl (ct_X2_whoComes _ _ _ _ (vw S) (RC_ag H2 b3.1) (RC_RO b3.1 b3.2.2) (by first | exact H0 | exact H1 | exact H2 | omega) (by first | exact H0 | exact H1 | exact H2 | omega)) (Nat.le_of_ble_eq_true rfl) (Nat.le_of_ble_eq_true rfl) ?_
        refine rr_goto 50 (pc := 45) B dX8_comes_45 (by decide) ?_
        refine rr_ireturn (pc := 50) B Br dX8_comes_50 ⟨congrArg (fun z => some (aI z)) ?_, ?_⟩
        · unfold vComes; rw [if_pos (by omega)]; first | (unfold whoV; rw [if_neg b4]; done) | exact (Classical.not_not.mp b4).symm
        · first | exact ⟨b3.1, b3.2.1⟩ | exact ⟨H0, mo_r M⟩
    · replace b2 := of_decide_eq_false b2
      refine rr_bipush (z := (-2)) (pc := 17) B dX8_comes_17 (by decide) ?_
      refine rr_ireturn (pc := 19) B Br dX8_comes_19 ⟨congrArg (fun z => some (aI z)) ?_, ?_⟩
      · unfold vComes; rw [if_neg (by omega)]
      · first | exact ⟨b3.1, b3.2.1⟩ | exact ⟨H0, mo_r M⟩
set_option maxHeartbeats 4000000 in
set_option maxRecDepth 100000 in
theorem ct_X8_costs (g : ax_G) (M : ax_M) (d h : Int) (S : ax_M) (H0 : RC S M) (H1 : SI S) (H2 : SR S) (H3 : -2147483648 ≤ d ∧ d ≤ 2147483647 ∧ -2147483648 ≤ h ∧ h ≤ 2147483647) : CT g md_X8_costs 4 [aR 8, aI d, aI h] M (pIR (vCosts S d h) (fun M2 => RC (S) M2 ∧ mo M M2)) := by
  refine ct_intro 0 rfl rfl ?_
  intro X hg B Br
  subst hg
  show AW X 0 [some (aR 8), some (aI d), some (aI h)] [] M
  refine rr_rg (fun G0 => ?_)
  refine rr_aload0 (pc := 0) B dX8_costs_0 ?_
  refine rr_iload1 (pc := 1) B dX8_costs_1 ?_
  refine rc_VI1 (pc := 2) B dX8_costs_2 vm_X8_isDeed lk_8_104 so_8 rfl (ct_X8_isDeed _ _ _ _ (by first | exact H0 | exact H1 | exact H2 | omega) (by first | exact H0 | exact H1 | exact H2 | omega)) (Nat.le_of_ble_eq_true rfl) (Nat.le_of_ble_eq_true rfl) ?_
  refine rr_if_eqB 17 (pc := 5) B dX8_costs_5 (by decide) (fun b1 => ?_) (fun b1 => ?_)
  · replace b1 := of_decide_eq_false b1
    refine rr_bipush (z := (-2)) (pc := 17) B dX8_costs_17 (by decide) ?_
    refine rr_ireturn (pc := 19) B Br dX8_costs_19 ⟨congrArg (fun z => some (aI z)) ?_, ?_⟩
    · unfold vCosts; rw [if_neg (by omega)]
    · first | exact ⟨b3.1, b3.2.1⟩ | exact ⟨H0, mo_r M⟩
  · replace b1 := of_decide_eq_true b1
    refine rr_iload2 (pc := 8) B dX8_costs_8 ?_
    refine rr_bipush (z := 7) (pc := 9) B dX8_costs_9 (by decide) ?_
    refine rc_SI2 (pc := 11) B dX8_costs_11 st_X8_within lk_8_74 (ct_X8_within _ _ _ _  (by first | exact H0 | exact H1 | exact H2 | omega)) (Nat.le_of_ble_eq_true rfl) (Nat.le_of_ble_eq_true rfl) ?_
    refine rr_if_neB 20 (pc := 14) B dX8_costs_14 (by decide) (fun b2 => ?_) (fun b2 => ?_)
    · replace b2 := of_decide_eq_true b2
      refine rr_aload0 (pc := 20) B dX8_costs_20 ?_
      refine rc_VVR0 (pc := 21) B dX8_costs_21 vm_X8_reckonOffers lk_8_175 so_8 rfl (ct_X8_reckonOffers _ _  _ (by first | exact H0 | exact H1 | exact H2 | omega) (by first | exact H0 | exact H1 | exact H2 | omega) (by first | exact H0 | exact H1 | exact H2 | omega)) (Nat.le_of_ble_eq_true rfl) (Nat.le_of_ble_eq_true rfl) (fun Mb3 b3 => ?_)
      refine rr_aload0 (pc := 24) B dX8_costs_24 ?_
      refine rr_getR (pc := 25) B dX8_costs_25 fl_8_20 or_8_1 ?_
      refine rr_iload1 (pc := 28) B dX8_costs_28 ?_
      refine rr_iload2 (pc := 29) B dX8_costs_29 ?_
      refine rc_VI2 (pc := 30) B dX8_costs_30 vm_X2_isOpen lk_8_178 so_2 rfl (ct_X2_isOpen _ _ _ _ (vw S) (RC_ag H2 b3.1) (RC_RO b3.1 b3.2.2) (by first | exact H0 | exact H1 | exact H2 | omega) (by first | exact H0 | exact H1 | exact H2 | omega)) (Nat.le_of_ble_eq_true rfl) (Nat.le_of_ble_eq_true rfl) ?_
      refine rr_if_eqB 48 (pc := 33) B dX8_costs_33 (by decide) (fun b4 => ?_) (fun b4 => ?_)
      · replace b4 := of_decide_eq_false b4
        refine rr_bipush (z := (-3)) (pc := 48) B dX8_costs_48 (by decide) ?_
        refine rr_ireturn (pc := 50) B Br dX8_costs_50 ⟨congrArg (fun z => some (aI z)) ?_, ?_⟩
        · unfold vCosts; first | (rw [if_pos (by omega)]; done) | (rw [if_pos (by omega)]; unfold cst; rw [if_pos (Classical.not_not.mp b4)])
        · first | exact ⟨b3.1, b3.2.1⟩ | exact ⟨H0, mo_r M⟩
      · replace b4 := of_decide_eq_true b4
        refine rr_aload0 (pc := 36) B dX8_costs_36 ?_
        refine rr_getR (pc := 37) B dX8_costs_37 fl_8_20 or_8_1 ?_
        refine rr_iload1 (pc := 40) B dX8_costs_40 ?_
        refine rr_iload2 (pc := 41) B dX8_costs_41 ?_
        refine rc_VI2 (pc := 42) B dX8_costs_42 vm_X2_fullPrice lk_8_187 so_2 rfl (ct_X2_fullPrice _ _ _ _ (vw S) (RC_ag H2 b3.1) (RC_RO b3.1 b3.2.2) (by first | omega | exact b4 | exact vw_p H2 d (by omega) (by omega)) (by first | omega | exact b4 | exact vw_p H2 d (by omega) (by omega)) (by first | omega | exact b4 | exact vw_p H2 d (by omega) (by omega))) (Nat.le_of_ble_eq_true rfl) (Nat.le_of_ble_eq_true rfl) ?_
        refine rr_goto 50 (pc := 45) B dX8_costs_45 (by decide) ?_
        refine rr_ireturn (pc := 50) B Br dX8_costs_50 ⟨congrArg (fun z => some (aI z)) ?_, ?_⟩
        · unfold vCosts; first | (rw [if_pos (by omega)]; done) | (rw [if_pos (by omega)]; unfold cst; rw [if_pos (Classical.not_not.mp b4)])
        · first | exact ⟨b3.1, b3.2.1⟩ | exact ⟨H0, mo_r M⟩
    · replace b2 := of_decide_eq_false b2
      refine rr_bipush (z := (-2)) (pc := 17) B dX8_costs_17 (by decide) ?_
      refine rr_ireturn (pc := 19) B Br dX8_costs_19 ⟨congrArg (fun z => some (aI z)) ?_, ?_⟩
      · unfold vCosts; rw [if_neg (by omega)]
      · first | exact ⟨b3.1, b3.2.1⟩ | exact ⟨H0, mo_r M⟩
set_option maxHeartbeats 4000000 in
set_option maxRecDepth 100000 in
theorem ct_X8_likeness (g : ax_G) (M : ax_M) (d h : Int) (S : ax_M) (H0 : RC S M) (H1 : SI S) (H2 : SR S) (H3 : -2147483648 ≤ d ∧ d ≤ 2147483647 ∧ -2147483648 ≤ h ∧ h ≤ 2147483647) : CT g md_X8_likeness 4 [aR 8, aI d, aI h] M (pIR (vLik S d h) (fun M2 => RC (S) M2 ∧ mo M M2)) := by
  refine ct_intro 0 rfl rfl ?_
  intro X hg B Br
  subst hg
  show AW X 0 [some (aR 8), some (aI d), some (aI h)] [] M
  refine rr_rg (fun G0 => ?_)
  refine rr_aload0 (pc := 0) B dX8_likeness_0 ?_
  refine rr_iload1 (pc := 1) B dX8_likeness_1 ?_
  refine rc_VI1 (pc := 2) B dX8_likeness_2 vm_X8_isDeed lk_8_104 so_8 rfl (ct_X8_isDeed _ _ _ _ (by first | exact H0 | exact H1 | exact H2 | omega) (by first | exact H0 | exact H1 | exact H2 | omega)) (Nat.le_of_ble_eq_true rfl) (Nat.le_of_ble_eq_true rfl) ?_
  refine rr_if_eqB 17 (pc := 5) B dX8_likeness_5 (by decide) (fun b1 => ?_) (fun b1 => ?_)
  · replace b1 := of_decide_eq_false b1
    refine rr_bipush (z := (-2)) (pc := 17) B dX8_likeness_17 (by decide) ?_
    refine rr_ireturn (pc := 19) B Br dX8_likeness_19 ⟨congrArg (fun z => some (aI z)) ?_, ?_⟩
    · unfold vLik; rw [if_neg (by omega)]
    · first | exact ⟨b3.1, b3.2.1⟩ | exact ⟨H0, mo_r M⟩
  · replace b1 := of_decide_eq_true b1
    refine rr_iload2 (pc := 8) B dX8_likeness_8 ?_
    refine rr_bipush (z := 7) (pc := 9) B dX8_likeness_9 (by decide) ?_
    refine rc_SI2 (pc := 11) B dX8_likeness_11 st_X8_within lk_8_74 (ct_X8_within _ _ _ _  (by first | exact H0 | exact H1 | exact H2 | omega)) (Nat.le_of_ble_eq_true rfl) (Nat.le_of_ble_eq_true rfl) ?_
    refine rr_if_neB 20 (pc := 14) B dX8_likeness_14 (by decide) (fun b2 => ?_) (fun b2 => ?_)
    · replace b2 := of_decide_eq_true b2
      refine rr_aload0 (pc := 20) B dX8_likeness_20 ?_
      refine rc_VVR0 (pc := 21) B dX8_likeness_21 vm_X8_reckonOffers lk_8_175 so_8 rfl (ct_X8_reckonOffers _ _  _ (by first | exact H0 | exact H1 | exact H2 | omega) (by first | exact H0 | exact H1 | exact H2 | omega) (by first | exact H0 | exact H1 | exact H2 | omega)) (Nat.le_of_ble_eq_true rfl) (Nat.le_of_ble_eq_true rfl) (fun Mb3 b3 => ?_)
      refine rr_aload0 (pc := 24) B dX8_likeness_24 ?_
      refine rr_getR (pc := 25) B dX8_likeness_25 fl_8_20 or_8_1 ?_
      refine rr_iload1 (pc := 28) B dX8_likeness_28 ?_
      refine rr_iload2 (pc := 29) B dX8_likeness_29 ?_
      refine rc_VI2 (pc := 30) B dX8_likeness_30 vm_X2_isOpen lk_8_178 so_2 rfl (ct_X2_isOpen _ _ _ _ (vw S) (RC_ag H2 b3.1) (RC_RO b3.1 b3.2.2) (by first | exact H0 | exact H1 | exact H2 | omega) (by first | exact H0 | exact H1 | exact H2 | omega)) (Nat.le_of_ble_eq_true rfl) (Nat.le_of_ble_eq_true rfl) ?_
      refine rr_if_eqB 48 (pc := 33) B dX8_likeness_33 (by decide) (fun b4 => ?_) (fun b4 => ?_)
      · replace b4 := of_decide_eq_false b4
        refine rr_bipush (z := (-3)) (pc := 48) B dX8_likeness_48 (by decide) ?_
        refine rr_ireturn (pc := 50) B Br dX8_likeness_50 ⟨congrArg (fun z => some (aI z)) ?_, ?_⟩
        · unfold vLik; first | (rw [if_pos (by omega)]; done) | (rw [if_pos (by omega)]; unfold lik; rw [if_pos (Classical.not_not.mp b4)])
        · first | exact ⟨b3.1, b3.2.1⟩ | exact ⟨H0, mo_r M⟩
      · replace b4 := of_decide_eq_true b4
        refine rr_aload0 (pc := 36) B dX8_likeness_36 ?_
        refine rr_getR (pc := 37) B dX8_likeness_37 fl_8_20 or_8_1 ?_
        refine rr_iload1 (pc := 40) B dX8_likeness_40 ?_
        refine rr_iload2 (pc := 41) B dX8_likeness_41 ?_
        refine rc_VI2 (pc := 42) B dX8_likeness_42 vm_X2_tenths lk_8_217 so_2 rfl (ct_X2_tenths _ _ _ _ (vw S) (RC_ag H2 b3.1) (RC_RO b3.1 b3.2.2) (by first | omega | exact b4 | exact vw_p H2 d (by omega) (by omega)) (by first | omega | exact b4 | exact vw_p H2 d (by omega) (by omega)) (by first | omega | exact b4 | exact vw_p H2 d (by omega) (by omega)) (by first | omega | exact b4 | exact vw_p H2 d (by omega) (by omega))) (Nat.le_of_ble_eq_true rfl) (Nat.le_of_ble_eq_true rfl) ?_
        refine rr_goto 50 (pc := 45) B dX8_likeness_45 (by decide) ?_
        refine rr_ireturn (pc := 50) B Br dX8_likeness_50 ⟨congrArg (fun z => some (aI z)) ?_, ?_⟩
        · unfold vLik; first | (rw [if_pos (by omega)]; done) | (rw [if_pos (by omega)]; unfold lik; rw [if_pos (Classical.not_not.mp b4)])
        · first | exact ⟨b3.1, b3.2.1⟩ | exact ⟨H0, mo_r M⟩
    · replace b2 := of_decide_eq_false b2
      refine rr_bipush (z := (-2)) (pc := 17) B dX8_likeness_17 (by decide) ?_
      refine rr_ireturn (pc := 19) B Br dX8_likeness_19 ⟨congrArg (fun z => some (aI z)) ?_, ?_⟩
      · unfold vLik; rw [if_neg (by omega)]
      · first | exact ⟨b3.1, b3.2.1⟩ | exact ⟨H0, mo_r M⟩
set_option maxHeartbeats 4000000 in
set_option maxRecDepth 100000 in
theorem ct_X8_asked (g : ax_G) (M : ax_M) (p h : Int) (S : ax_M) (H0 : RC S M) (H1 : SI S) (H2 : SR S) (H3 : -2147483648 ≤ p ∧ p ≤ 2147483647 ∧ -2147483648 ≤ h ∧ h ≤ 2147483647) : CT g md_X8_asked 4 [aR 8, aI p, aI h] M (pIR (vAsk S p h) (fun M2 => RC (S) M2 ∧ mo M M2)) := by
  refine ct_intro 0 rfl rfl ?_
  intro X hg B Br
  subst hg
  show AW X 0 [some (aR 8), some (aI p), some (aI h)] [] M
  refine rr_rg (fun G0 => ?_)
  refine rr_iload1 (pc := 0) B dX8_asked_0 ?_
  refine rr_bipush (z := 7) (pc := 1) B dX8_asked_1 (by decide) ?_
  refine rc_SI2 (pc := 3) B dX8_asked_3 st_X8_within lk_8_74 (ct_X8_within _ _ _ _  (by first | exact H0 | exact H1 | exact H2 | omega)) (Nat.le_of_ble_eq_true rfl) (Nat.le_of_ble_eq_true rfl) ?_
  refine rr_if_eqB 18 (pc := 6) B dX8_asked_6 (by decide) (fun b1 => ?_) (fun b1 => ?_)
  · replace b1 := of_decide_eq_false b1
    refine rr_bipush (z := (-2)) (pc := 18) B dX8_asked_18 (by decide) ?_
    refine rr_ireturn (pc := 20) B Br dX8_asked_20 ⟨congrArg (fun z => some (aI z)) ?_, ?_⟩
    · unfold vAsk; rw [if_neg (by omega)]
    · first | exact ⟨b3.1, b3.2.1⟩ | exact ⟨H0, mo_r M⟩
  · replace b1 := of_decide_eq_true b1
    refine rr_iload2 (pc := 9) B dX8_asked_9 ?_
    refine rr_bipush (z := 7) (pc := 10) B dX8_asked_10 (by decide) ?_
    refine rc_SI2 (pc := 12) B dX8_asked_12 st_X8_within lk_8_74 (ct_X8_within _ _ _ _  (by first | exact H0 | exact H1 | exact H2 | omega)) (Nat.le_of_ble_eq_true rfl) (Nat.le_of_ble_eq_true rfl) ?_
    refine rr_if_neB 21 (pc := 15) B dX8_asked_15 (by decide) (fun b2 => ?_) (fun b2 => ?_)
    · replace b2 := of_decide_eq_true b2
      refine rr_aload0 (pc := 21) B dX8_asked_21 ?_
      refine rc_VVR0 (pc := 22) B dX8_asked_22 vm_X8_reckonOffers lk_8_175 so_8 rfl (ct_X8_reckonOffers _ _  _ (by first | exact H0 | exact H1 | exact H2 | omega) (by first | exact H0 | exact H1 | exact H2 | omega) (by first | exact H0 | exact H1 | exact H2 | omega)) (Nat.le_of_ble_eq_true rfl) (Nat.le_of_ble_eq_true rfl) (fun Mb3 b3 => ?_)
      refine rr_aload0 (pc := 25) B dX8_asked_25 ?_
      refine rr_getR (pc := 26) B dX8_asked_26 fl_8_20 or_8_1 ?_
      refine rr_iload1 (pc := 29) B dX8_asked_29 ?_
      refine rr_iload2 (pc := 30) B dX8_asked_30 ?_
      refine rc_VI2 (pc := 31) B dX8_asked_31 vm_X2_timesAsked lk_8_214 so_2 rfl (ct_X2_timesAsked _ _ _ _ (vw S) (RC_ag H2 b3.1) (RC_RO b3.1 b3.2.2) (by first | exact H0 | exact H1 | exact H2 | omega) (by first | exact H0 | exact H1 | exact H2 | omega)) (Nat.le_of_ble_eq_true rfl) (Nat.le_of_ble_eq_true rfl) ?_
      refine rr_ireturn (pc := 34) B Br dX8_asked_34 ⟨congrArg (fun z => some (aI z)) ?_, ?_⟩
      · unfold vAsk; rw [if_pos (by omega)]
      · first | exact ⟨b3.1, b3.2.1⟩ | exact ⟨H0, mo_r M⟩
    · replace b2 := of_decide_eq_false b2
      refine rr_bipush (z := (-2)) (pc := 18) B dX8_asked_18 (by decide) ?_
      refine rr_ireturn (pc := 20) B Br dX8_asked_20 ⟨congrArg (fun z => some (aI z)) ?_, ?_⟩
      · unfold vAsk; rw [if_neg (by omega)]
      · first | exact ⟨b3.1, b3.2.1⟩ | exact ⟨H0, mo_r M⟩
set_option maxHeartbeats 4000000 in
set_option maxRecDepth 100000 in
theorem ct_X8_most (g : ax_G) (M : ax_M) (w : Int) (S : ax_M) (H0 : RC S M) (H1 : SI S) (H2 : SR S) (H3 : -2147483648 ≤ w ∧ w ≤ 2147483647) : CT g md_X8_most 5 [aR 8, aI w] M (pIR (vMost S w) (fun M2 => RC (S) M2 ∧ mo M M2)) := by
  refine ct_intro 0 rfl rfl ?_
  intro X hg B Br
  subst hg
  show AW X 0 [some (aR 8), some (aI w)] [] M
  refine rr_rg (fun G0 => ?_)
  refine rr_iload1 (pc := 0) B dX8_most_0 ?_
  refine rr_iconst (z := 1) (pc := 1) B dX8_most_1 ?_
  refine rc_SI2 (pc := 2) B dX8_most_2 st_X8_within lk_8_74 (ct_X8_within _ _ _ _  (by first | exact H0 | exact H1 | exact H2 | omega)) (Nat.le_of_ble_eq_true rfl) (Nat.le_of_ble_eq_true rfl) ?_
  refine rr_if_neB 11 (pc := 5) B dX8_most_5 (by decide) (fun b1 => ?_) (fun b1 => ?_)
  · replace b1 := of_decide_eq_true b1
    refine rr_aload0 (pc := 11) B dX8_most_11 ?_
    refine rc_VVR0 (pc := 12) B dX8_most_12 vm_X8_reckonPlan lk_8_190 so_8 rfl (ct_X8_reckonPlan _ _  _ (by first | exact H0 | exact H1 | exact H2 | omega) (by first | exact H0 | exact H1 | exact H2 | omega) (by first | exact H0 | exact H1 | exact H2 | omega)) (Nat.le_of_ble_eq_true rfl) (Nat.le_of_ble_eq_true rfl) (fun Mb2 b2 => ?_)
    refine rr_iload1 (pc := 15) B dX8_most_15 ?_
    refine rr_if_ne 29 (pc := 16) B dX8_most_16 (by decide) (by omega) (fun b3 => ?_) (fun b3 => ?_)
    · refine rr_aload0 (pc := 29) B dX8_most_29 ?_
      refine rr_getR (pc := 30) B dX8_most_30 fl_8_10 or_8_0 ?_
      refine rr_getIE (pc := 33) B dX8_most_33 fl_8_195 ob_4_2 ((RC_PL b2.1 b2.2.2.2).2.1) (fun b4 => ?_)
      refine rr_ireturn (pc := 36) B Br dX8_most_36 ⟨congrArg (fun z => some (aI z)) ?_, ?_⟩
      · unfold vMost; repeat (first | rw [if_pos (by omega)] | rw [if_neg (by omega)])
      · first | exact ⟨b2.1, b2.2.1⟩ | exact ⟨H0, mo_r M⟩
    · refine rr_aload0 (pc := 19) B dX8_most_19 ?_
      refine rr_getR (pc := 20) B dX8_most_20 fl_8_10 or_8_0 ?_
      refine rr_getIE (pc := 23) B dX8_most_23 fl_8_193 ob_4_1 ((RC_PL b2.1 b2.2.2.2).1) (fun b4 => ?_)
      refine rr_goto 36 (pc := 26) B dX8_most_26 (by decide) ?_
      refine rr_ireturn (pc := 36) B Br dX8_most_36 ⟨congrArg (fun z => some (aI z)) ?_, ?_⟩
      · unfold vMost; repeat (first | rw [if_pos (by omega)] | rw [if_neg (by omega)])
      · first | exact ⟨b2.1, b2.2.1⟩ | exact ⟨H0, mo_r M⟩
  · replace b1 := of_decide_eq_false b1
    refine rr_bipush (z := (-2)) (pc := 8) B dX8_most_8 (by decide) ?_
    refine rr_ireturn (pc := 10) B Br dX8_most_10 ⟨congrArg (fun z => some (aI z)) ?_, ?_⟩
    · unfold vMost; repeat (first | rw [if_pos (by omega)] | rw [if_neg (by omega)])
    · first | exact ⟨b2.1, b2.2.1⟩ | exact ⟨H0, mo_r M⟩
set_option maxHeartbeats 4000000 in
set_option maxRecDepth 100000 in
theorem ct_X8_when (g : ax_G) (M : ax_M) (d : Int) (S : ax_M) (H0 : RC S M) (H1 : SI S) (H2 : SR S) (H3 : -2147483648 ≤ d ∧ d ≤ 2147483647) : CT g md_X8_when 5 [aR 8, aI d] M (pIR (vWhen S d) (fun M2 => RC (S) M2 ∧ mo M M2)) := by
  refine ct_intro 0 rfl rfl ?_
  intro X hg B Br
  subst hg
  show AW X 0 [some (aR 8), some (aI d)] [] M
  refine rr_rg (fun G0 => ?_)
  have N8 := vw_n8 H2
  refine rr_aload0 (pc := 0) B dX8_when_0 ?_
  refine rr_iload1 (pc := 1) B dX8_when_1 ?_
  refine rc_VI1 (pc := 2) B dX8_when_2 vm_X8_isDeed lk_8_104 so_8 rfl (ct_X8_isDeed _ _ _ _ (by first | exact H0 | exact H1 | exact H2 | omega) (by first | exact H0 | exact H1 | exact H2 | omega)) (Nat.le_of_ble_eq_true rfl) (Nat.le_of_ble_eq_true rfl) ?_
  refine rr_if_neB 11 (pc := 5) B dX8_when_5 (by decide) (fun b1 => ?_) (fun b1 => ?_)
  · replace b1 := of_decide_eq_true b1
    refine rr_aload0 (pc := 11) B dX8_when_11 ?_
    refine rc_VVR0 (pc := 12) B dX8_when_12 vm_X8_reckonPlan lk_8_190 so_8 rfl (ct_X8_reckonPlan _ _  _ (by first | exact H0 | exact H1 | exact H2 | omega) (by first | exact H0 | exact H1 | exact H2 | omega) (by first | exact H0 | exact H1 | exact H2 | omega)) (Nat.le_of_ble_eq_true rfl) (Nat.le_of_ble_eq_true rfl) (fun Mb2 b2 => ?_)
    refine rr_aload0 (pc := 15) B dX8_when_15 ?_
    refine rr_getR (pc := 16) B dX8_when_16 fl_8_10 or_8_0 ?_
    refine rr_getR (pc := 19) B dX8_when_19 fl_8_198 or_4_0 ?_
    refine rr_iload1 (pc := 22) B dX8_when_22 ?_
    refine rr_ialoadE (pc := 23) B dX8_when_23 sa_26 (by omega) ((RC_PL b2.1 b2.2.2.2).2.2 _ (by omega) (by omega)) (fun b3 => ?_)
    refine rr_ireturn (pc := 24) B Br dX8_when_24 ⟨congrArg (fun z => some (aI z)) ?_, ?_⟩
    · unfold vWhen; repeat (first | rw [if_pos (by omega)] | rw [if_neg (by omega)])
    · first | exact ⟨b2.1, b2.2.1⟩ | exact ⟨H0, mo_r M⟩
  · replace b1 := of_decide_eq_false b1
    refine rr_bipush (z := (-2)) (pc := 8) B dX8_when_8 (by decide) ?_
    refine rr_ireturn (pc := 10) B Br dX8_when_10 ⟨congrArg (fun z => some (aI z)) ?_, ?_⟩
    · unfold vWhen; repeat (first | rw [if_pos (by omega)] | rw [if_neg (by omega)])
    · first | exact ⟨b2.1, b2.2.1⟩ | exact ⟨H0, mo_r M⟩
