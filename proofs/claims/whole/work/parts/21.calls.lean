set_option maxHeartbeats 4000000 in
set_option maxRecDepth 100000 in
theorem ct_X9_reads (g : ax_G) (M : ax_M) (S : ax_M) (H0 : bs S M) : CT g md_X9_reads 3 [aR 9] M (pVR (fun M2 => rdM S M2 ∧ frm exP M M2)) := by
  refine ct_intro 1 rfl rfl ?_
  intro X hg B Br
  subst hg
  show AW X 0 [some (aR 9), none] [] M
  refine rr_rg (fun G0 => ?_)
  refine rr_aload0 (pc := 0) B dX9_reads_0 ?_
  refine rr_iconst (z := 0) (pc := 1) B dX9_reads_1 ?_
  refine rc_VIR1 (pc := 2) B dX9_reads_2 vm_X9_faultOf lk_9_136 so_9 rfl (ct_X9_faultOf0 _ _ _ (S 45 0) (t0 S) (S 45 1) (t1 S) (by rfl) (by exact H0 45 0 rfl) (by exact fun i _ _ => H0 46 _ rfl) (by exact H0 45 1 rfl) (by exact fun i _ _ => H0 46 _ rfl)) (Nat.le_of_ble_eq_true rfl) (Nat.le_of_ble_eq_true rfl) (fun Mb1 b1 => ?_)
  refine rr_istore1 (pc := 5) B dX9_reads_5 rfl ?_
  refine rr_aload0 (pc := 6) B dX9_reads_6 ?_
  refine rr_iconst (z := 1) (pc := 7) B dX9_reads_7 ?_
  refine rc_VIR1 (pc := 8) B dX9_reads_8 vm_X9_faultOf lk_9_136 so_9 rfl (ct_X9_faultOf1 _ _ _ (S 45 0) (t0 S) (S 45 1) (t1 S) (by rfl) (by exact (b1.2 45 0 rfl).trans (H0 45 0 rfl)) (by exact fun i _ _ => (b1.2 46 _ rfl).trans (H0 46 _ rfl)) (by exact (b1.2 45 1 rfl).trans (H0 45 1 rfl)) (by exact fun i _ _ => (b1.2 46 _ rfl).trans (H0 46 _ rfl))) (Nat.le_of_ble_eq_true rfl) (Nat.le_of_ble_eq_true rfl) (fun Mb2 b2 => ?_)
  refine rr_istore1 (pc := 11) B dX9_reads_11 rfl ?_
  refine rr_rg (fun G2 => ?_)
  have F : frm exP M Mb2 := frm_tr (frm_mono b1.2 exD_P) (frm_mono b2.2 exR_P)
  have O0 : okP0 (t0 S) (S 45 0) Mb2 := ⟨(b2.2 9 2 rfl).trans b1.1.1, fun d h0 h1 => by
    have w := b1.1.2 d h0 h1
    rw [← b2.2 47 d rfl, ← b2.2 48 d rfl, ← b2.2 49 d rfl, ← b2.2 50 d rfl, ← b2.2 51 d rfl] at w
    exact w⟩
  have BB := bs_fr H0 F isB_P
  refine rr_return (pc := 12) B Br dX9_reads_12 ⟨rfl, ?_⟩
  · exact ⟨⟨ag_of O0 b2.1 BB, BB, vw_pos G2 O0⟩, F⟩
set_option maxHeartbeats 4000000 in
set_option maxRecDepth 100000 in
theorem ct_X9_isDeed (g : ax_G) (M : ax_M) (d : Int) (S : ax_M) (H0 : bs S M) (H1 : -2147483648 ≤ d ∧ d ≤ 2147483647) : CT g md_X9_isDeed 4 [aR 9, aI d] M (pIR (bi (decide (0 ≤ d ∧ d ≤ vw S 9 2 - 1))) (fun M2 => rdM S M2 ∧ frm exP M M2)) := by
  refine ct_intro 0 rfl rfl ?_
  intro X hg B Br
  subst hg
  show AW X 0 [some (aR 9), some (aI d)] [] M
  refine rr_rg (fun G0 => ?_)
  refine rr_aload0 (pc := 0) B dX9_isDeed_0 ?_
  refine rc_VVR0 (pc := 1) B dX9_isDeed_1 vm_X9_reads lk_9_139 so_9 rfl (ct_X9_reads _ _  _ (by exact H0)) (Nat.le_of_ble_eq_true rfl) (Nat.le_of_ble_eq_true rfl) (fun Mb1 b1 => ?_)
  refine rr_iload1 (pc := 4) B dX9_isDeed_4 ?_
  refine rr_iconst (z := 0) (pc := 5) B dX9_isDeed_5 ?_
  refine rr_aload0 (pc := 6) B dX9_isDeed_6 ?_
  refine rr_getIE (pc := 7) B dX9_isDeed_7 fl_9_107 ob_9_2 (b1.1.1 9 _ (Or.inl rfl)) (fun b2 => ?_)
  refine rr_iconst (z := 1) (pc := 10) B dX9_isDeed_10 ?_
  refine rr_isub (pc := 11) B dX9_isDeed_11 ?_
  refine rc_SI3 (pc := 12) B dX9_isDeed_12 st_X9_in lk_9_103 (ct_X9_in _ _ _ _ _  (by omega)) (Nat.le_of_ble_eq_true rfl) (Nat.le_of_ble_eq_true rfl) ?_
  refine rr_zreturn (pc := 15) B Br dX9_isDeed_15 (bi_01 _) ⟨congrArg (fun z => some (aI z)) ?_, ?_⟩
  · rfl
  · exact b1
set_option maxHeartbeats 4000000 in
set_option maxRecDepth 100000 in
theorem ct_X9_deed (g : ax_G) (M : ax_M) (d w : Int) (S : ax_M) (H0 : bs S M) (H1 : SI S) (H2 : -2147483648 ≤ d ∧ d ≤ 2147483647 ∧ -2147483648 ≤ w ∧ w ≤ 2147483647) : CT g md_X9_deed 5 [aR 9, aI d, aI w] M (pIR (vDeed S d w) (fun M2 => bs (S) M2 ∧ co M M2)) := by
  refine ct_intro 0 rfl rfl ?_
  intro X hg B Br
  subst hg
  show AW X 0 [some (aR 9), some (aI d), some (aI w)] [] M
  refine rr_rg (fun G0 => ?_)
  have HB := H0
  refine rr_aload0 (pc := 0) B dX9_deed_0 ?_
  refine rr_iload1 (pc := 1) B dX9_deed_1 ?_
  refine rc_VIR1 (pc := 2) B dX9_deed_2 vm_X9_isDeed lk_9_142 so_9 rfl (ct_X9_isDeed _ _ _ _ (by exact H0) (by first | exact H0 | omega)) (Nat.le_of_ble_eq_true rfl) (Nat.le_of_ble_eq_true rfl) (fun Mb1 b1 => ?_)
  refine rr_if_eqB 26 (pc := 5) B dX9_deed_5 (by decide) (fun b2 => ?_) (fun b2 => ?_)
  · replace b2 := of_decide_eq_false b2
    refine rr_bipush (z := (-2)) (pc := 26) B dX9_deed_26 (by decide) ?_
    refine rr_ireturn (pc := 28) B Br dX9_deed_28 ⟨congrArg (fun z => some (aI z)) ?_, ?_⟩
    · unfold vDeed; first | exact (if_pos (by omega)).symm | exact (if_neg (by omega)).symm
    · exact ⟨b1.1.2.1, co_P b1.2⟩
  · replace b2 := of_decide_eq_true b2
    refine rr_iload2 (pc := 8) B dX9_deed_8 ?_
    refine rr_iconst (z := 0) (pc := 9) B dX9_deed_9 ?_
    refine rr_iconst (z := 4) (pc := 10) B dX9_deed_10 ?_
    refine rc_SI3 (pc := 11) B dX9_deed_11 st_X9_in lk_9_103 (ct_X9_in _ _ _ _ _  (by omega)) (Nat.le_of_ble_eq_true rfl) (Nat.le_of_ble_eq_true rfl) ?_
    refine rr_if_eqB 26 (pc := 14) B dX9_deed_14 (by decide) (fun b3 => ?_) (fun b3 => ?_)
    · replace b3 := of_decide_eq_false b3
      refine rr_bipush (z := (-2)) (pc := 26) B dX9_deed_26 (by decide) ?_
      refine rr_ireturn (pc := 28) B Br dX9_deed_28 ⟨congrArg (fun z => some (aI z)) ?_, ?_⟩
      · unfold vDeed; first | exact (if_pos (by omega)).symm | exact (if_neg (by omega)).symm
      · exact ⟨b1.1.2.1, co_P b1.2⟩
    · replace b3 := of_decide_eq_true b3
      refine rr_aload0 (pc := 17) B dX9_deed_17 ?_
      refine rr_iload1 (pc := 18) B dX9_deed_18 ?_
      refine rr_iload2 (pc := 19) B dX9_deed_19 ?_
      refine rc_VI2 (pc := 20) B dX9_deed_20 vm_X9_deedOf lk_9_146 so_9 rfl (ct_X9_deedOf _ _ _ _ (vw S) (b1.1.1) (by omega) (by omega)) (Nat.le_of_ble_eq_true rfl) (Nat.le_of_ble_eq_true rfl) ?_
      refine rr_goto 28 (pc := 23) B dX9_deed_23 (by decide) ?_
      refine rr_ireturn (pc := 28) B Br dX9_deed_28 ⟨congrArg (fun z => some (aI z)) ?_, ?_⟩
      · unfold vDeed; first | exact (if_pos (by omega)).symm | exact (if_neg (by omega)).symm
      · exact ⟨b1.1.2.1, co_P b1.2⟩
set_option maxHeartbeats 4000000 in
set_option maxRecDepth 100000 in
theorem ct_X9_can (g : ax_G) (M : ax_M) (d h : Int) (S : ax_M) (H0 : bs S M) (H1 : SI S) (H2 : -2147483648 ≤ d ∧ d ≤ 2147483647 ∧ -2147483648 ≤ h ∧ h ≤ 2147483647) : CT g md_X9_can 5 [aR 9, aI d, aI h] M (pIR (vCan S d h) (fun M2 => bs (S) M2 ∧ co M M2)) := by
  refine ct_intro 0 rfl rfl ?_
  intro X hg B Br
  subst hg
  show AW X 0 [some (aR 9), some (aI d), some (aI h)] [] M
  refine rr_rg (fun G0 => ?_)
  have HB := H0
  refine rr_aload0 (pc := 0) B dX9_can_0 ?_
  refine rr_iload1 (pc := 1) B dX9_can_1 ?_
  refine rc_VIR1 (pc := 2) B dX9_can_2 vm_X9_isDeed lk_9_142 so_9 rfl (ct_X9_isDeed _ _ _ _ (by exact H0) (by first | exact H0 | omega)) (Nat.le_of_ble_eq_true rfl) (Nat.le_of_ble_eq_true rfl) (fun Mb1 b1 => ?_)
  refine rr_if_eqB 24 (pc := 5) B dX9_can_5 (by decide) (fun b2 => ?_) (fun b2 => ?_)
  · replace b2 := of_decide_eq_false b2
    refine rr_bipush (z := (-2)) (pc := 24) B dX9_can_24 (by decide) ?_
    refine rr_ireturn (pc := 26) B Br dX9_can_26 ⟨congrArg (fun z => some (aI z)) ?_, ?_⟩
    · unfold vCan; first | exact (if_pos (by omega)).symm | exact (if_neg (by omega)).symm
    · exact ⟨b1.1.2.1, co_P b1.2⟩
  · replace b2 := of_decide_eq_true b2
    refine rr_iload2 (pc := 8) B dX9_can_8 ?_
    refine rc_SI1 (pc := 9) B dX9_can_9 st_X9_isHour lk_9_155 (ct_X9_isHour _ _ _  (by omega)) (Nat.le_of_ble_eq_true rfl) (Nat.le_of_ble_eq_true rfl) ?_
    refine rr_if_eqB 24 (pc := 12) B dX9_can_12 (by decide) (fun b3 => ?_) (fun b3 => ?_)
    · replace b3 := of_decide_eq_false b3
      refine rr_bipush (z := (-2)) (pc := 24) B dX9_can_24 (by decide) ?_
      refine rr_ireturn (pc := 26) B Br dX9_can_26 ⟨congrArg (fun z => some (aI z)) ?_, ?_⟩
      · unfold vCan; first | exact (if_pos (by omega)).symm | exact (if_neg (by omega)).symm
      · exact ⟨b1.1.2.1, co_P b1.2⟩
    · replace b3 := of_decide_eq_true b3
      refine rr_aload0 (pc := 15) B dX9_can_15 ?_
      refine rr_iload1 (pc := 16) B dX9_can_16 ?_
      refine rr_iload2 (pc := 17) B dX9_can_17 ?_
      refine rc_VI2 (pc := 18) B dX9_can_18 vm_X9_canOf lk_9_176 so_9 rfl (ct_X9_canOf _ _ _ _ (vw S) (b1.1.1) (by omega) (by omega)) (Nat.le_of_ble_eq_true rfl) (Nat.le_of_ble_eq_true rfl) ?_
      refine rr_goto 26 (pc := 21) B dX9_can_21 (by decide) ?_
      refine rr_ireturn (pc := 26) B Br dX9_can_26 ⟨congrArg (fun z => some (aI z)) ?_, ?_⟩
      · unfold vCan; first | exact (if_pos (by omega)).symm | exact (if_neg (by omega)).symm
      · exact ⟨b1.1.2.1, co_P b1.2⟩
set_option maxHeartbeats 4000000 in
set_option maxRecDepth 100000 in
theorem ct_X9_hours (g : ax_G) (M : ax_M) (d : Int) (S : ax_M) (H0 : bs S M) (H1 : SI S) (H2 : -2147483648 ≤ d ∧ d ≤ 2147483647) : CT g md_X9_hours 5 [aR 9, aI d] M (pIR (vHours S d) (fun M2 => bs (S) M2 ∧ co M M2)) := by
  refine ct_intro 0 rfl rfl ?_
  intro X hg B Br
  subst hg
  show AW X 0 [some (aR 9), some (aI d)] [] M
  refine rr_rg (fun G0 => ?_)
  have HB := H0
  refine rr_aload0 (pc := 0) B dX9_hours_0 ?_
  refine rr_iload1 (pc := 1) B dX9_hours_1 ?_
  refine rc_VIR1 (pc := 2) B dX9_hours_2 vm_X9_isDeed lk_9_142 so_9 rfl (ct_X9_isDeed _ _ _ _ (by exact H0) (by first | exact H0 | omega)) (Nat.le_of_ble_eq_true rfl) (Nat.le_of_ble_eq_true rfl) (fun Mb1 b1 => ?_)
  refine rr_if_eqB 16 (pc := 5) B dX9_hours_5 (by decide) (fun b2 => ?_) (fun b2 => ?_)
  · replace b2 := of_decide_eq_false b2
    refine rr_bipush (z := (-2)) (pc := 16) B dX9_hours_16 (by decide) ?_
    refine rr_ireturn (pc := 18) B Br dX9_hours_18 ⟨congrArg (fun z => some (aI z)) ?_, ?_⟩
    · unfold vHours; first | exact (if_pos (by omega)).symm | exact (if_neg (by omega)).symm
    · exact ⟨b1.1.2.1, co_P b1.2⟩
  · replace b2 := of_decide_eq_true b2
    refine rr_aload0 (pc := 8) B dX9_hours_8 ?_
    refine rr_iload1 (pc := 9) B dX9_hours_9 ?_
    refine rc_VI1 (pc := 10) B dX9_hours_10 vm_X9_hoursOf lk_9_179 so_9 rfl (ct_X9_hoursOf _ _ _ (vw S) (b1.1.1) (by omega)) (Nat.le_of_ble_eq_true rfl) (Nat.le_of_ble_eq_true rfl) ?_
    refine rr_goto 18 (pc := 13) B dX9_hours_13 (by decide) ?_
    refine rr_ireturn (pc := 18) B Br dX9_hours_18 ⟨congrArg (fun z => some (aI z)) ?_, ?_⟩
    · unfold vHours; first | exact (if_pos (by omega)).symm | exact (if_neg (by omega)).symm
    · exact ⟨b1.1.2.1, co_P b1.2⟩
set_option maxHeartbeats 4000000 in
set_option maxRecDepth 100000 in
theorem ct_X9_comes (g : ax_G) (M : ax_M) (d h : Int) (S : ax_M) (H0 : bs S M) (H1 : SI S) (H2 : -2147483648 ≤ d ∧ d ≤ 2147483647 ∧ -2147483648 ≤ h ∧ h ≤ 2147483647) : CT g md_X9_comes 5 [aR 9, aI d, aI h] M (pIR (vComes S d h) (fun M2 => bs (S) M2 ∧ co M M2)) := by
  refine ct_intro 0 rfl rfl ?_
  intro X hg B Br
  subst hg
  show AW X 0 [some (aR 9), some (aI d), some (aI h)] [] M
  refine rr_rg (fun G0 => ?_)
  have HB := H0
  refine rr_aload0 (pc := 0) B dX9_comes_0 ?_
  refine rr_iload1 (pc := 1) B dX9_comes_1 ?_
  refine rc_VIR1 (pc := 2) B dX9_comes_2 vm_X9_isDeed lk_9_142 so_9 rfl (ct_X9_isDeed _ _ _ _ (by exact H0) (by first | exact H0 | omega)) (Nat.le_of_ble_eq_true rfl) (Nat.le_of_ble_eq_true rfl) (fun Mb1 b1 => ?_)
  refine rr_if_eqB 24 (pc := 5) B dX9_comes_5 (by decide) (fun b2 => ?_) (fun b2 => ?_)
  · replace b2 := of_decide_eq_false b2
    refine rr_bipush (z := (-2)) (pc := 24) B dX9_comes_24 (by decide) ?_
    refine rr_ireturn (pc := 26) B Br dX9_comes_26 ⟨congrArg (fun z => some (aI z)) ?_, ?_⟩
    · unfold vComes; first | exact (if_pos (by omega)).symm | exact (if_neg (by omega)).symm
    · exact ⟨b1.1.2.1, co_P b1.2⟩
  · replace b2 := of_decide_eq_true b2
    refine rr_iload2 (pc := 8) B dX9_comes_8 ?_
    refine rc_SI1 (pc := 9) B dX9_comes_9 st_X9_isHour lk_9_155 (ct_X9_isHour _ _ _  (by omega)) (Nat.le_of_ble_eq_true rfl) (Nat.le_of_ble_eq_true rfl) ?_
    refine rr_if_eqB 24 (pc := 12) B dX9_comes_12 (by decide) (fun b3 => ?_) (fun b3 => ?_)
    · replace b3 := of_decide_eq_false b3
      refine rr_bipush (z := (-2)) (pc := 24) B dX9_comes_24 (by decide) ?_
      refine rr_ireturn (pc := 26) B Br dX9_comes_26 ⟨congrArg (fun z => some (aI z)) ?_, ?_⟩
      · unfold vComes; first | exact (if_pos (by omega)).symm | exact (if_neg (by omega)).symm
      · exact ⟨b1.1.2.1, co_P b1.2⟩
    · replace b3 := of_decide_eq_true b3
      refine rr_aload0 (pc := 15) B dX9_comes_15 ?_
      refine rr_iload1 (pc := 16) B dX9_comes_16 ?_
      refine rr_iload2 (pc := 17) B dX9_comes_17 ?_
      refine rc_VI2 (pc := 18) B dX9_comes_18 vm_X9_comesOf lk_9_173 so_9 rfl (ct_X9_comesOf _ _ _ _ (vw S) (b1.1.1) (by omega) (by omega)) (Nat.le_of_ble_eq_true rfl) (Nat.le_of_ble_eq_true rfl) ?_
      refine rr_goto 26 (pc := 21) B dX9_comes_21 (by decide) ?_
      refine rr_ireturn (pc := 26) B Br dX9_comes_26 ⟨congrArg (fun z => some (aI z)) ?_, ?_⟩
      · unfold vComes; first | exact (if_pos (by omega)).symm | exact (if_neg (by omega)).symm
      · exact ⟨b1.1.2.1, co_P b1.2⟩
set_option maxHeartbeats 4000000 in
set_option maxRecDepth 100000 in
theorem ct_X9_costs (g : ax_G) (M : ax_M) (d h : Int) (S : ax_M) (H0 : bs S M) (H1 : SI S) (H2 : -2147483648 ≤ d ∧ d ≤ 2147483647 ∧ -2147483648 ≤ h ∧ h ≤ 2147483647) : CT g md_X9_costs 5 [aR 9, aI d, aI h] M (pIR (vCosts S d h) (fun M2 => bs (S) M2 ∧ co M M2)) := by
  refine ct_intro 0 rfl rfl ?_
  intro X hg B Br
  subst hg
  show AW X 0 [some (aR 9), some (aI d), some (aI h)] [] M
  refine rr_rg (fun G0 => ?_)
  have HB := H0
  refine rr_aload0 (pc := 0) B dX9_costs_0 ?_
  refine rr_iload1 (pc := 1) B dX9_costs_1 ?_
  refine rc_VIR1 (pc := 2) B dX9_costs_2 vm_X9_isDeed lk_9_142 so_9 rfl (ct_X9_isDeed _ _ _ _ (by exact H0) (by first | exact H0 | omega)) (Nat.le_of_ble_eq_true rfl) (Nat.le_of_ble_eq_true rfl) (fun Mb1 b1 => ?_)
  refine rr_if_eqB 24 (pc := 5) B dX9_costs_5 (by decide) (fun b2 => ?_) (fun b2 => ?_)
  · replace b2 := of_decide_eq_false b2
    refine rr_bipush (z := (-2)) (pc := 24) B dX9_costs_24 (by decide) ?_
    refine rr_ireturn (pc := 26) B Br dX9_costs_26 ⟨congrArg (fun z => some (aI z)) ?_, ?_⟩
    · unfold vCosts; first | exact (if_pos (by omega)).symm | exact (if_neg (by omega)).symm
    · exact ⟨b1.1.2.1, co_P b1.2⟩
  · replace b2 := of_decide_eq_true b2
    refine rr_iload2 (pc := 8) B dX9_costs_8 ?_
    refine rc_SI1 (pc := 9) B dX9_costs_9 st_X9_isHour lk_9_155 (ct_X9_isHour _ _ _  (by omega)) (Nat.le_of_ble_eq_true rfl) (Nat.le_of_ble_eq_true rfl) ?_
    refine rr_if_eqB 24 (pc := 12) B dX9_costs_12 (by decide) (fun b3 => ?_) (fun b3 => ?_)
    · replace b3 := of_decide_eq_false b3
      refine rr_bipush (z := (-2)) (pc := 24) B dX9_costs_24 (by decide) ?_
      refine rr_ireturn (pc := 26) B Br dX9_costs_26 ⟨congrArg (fun z => some (aI z)) ?_, ?_⟩
      · unfold vCosts; first | exact (if_pos (by omega)).symm | exact (if_neg (by omega)).symm
      · exact ⟨b1.1.2.1, co_P b1.2⟩
    · replace b3 := of_decide_eq_true b3
      refine rr_aload0 (pc := 15) B dX9_costs_15 ?_
      refine rr_iload1 (pc := 16) B dX9_costs_16 ?_
      refine rr_iload2 (pc := 17) B dX9_costs_17 ?_
      refine rc_VI2 (pc := 18) B dX9_costs_18 vm_X9_costsOf lk_9_185 so_9 rfl (ct_X9_costsOf _ _ _ _ (vw S) (b1.1.1) (by omega) (by omega)) (Nat.le_of_ble_eq_true rfl) (Nat.le_of_ble_eq_true rfl) ?_
      refine rr_goto 26 (pc := 21) B dX9_costs_21 (by decide) ?_
      refine rr_ireturn (pc := 26) B Br dX9_costs_26 ⟨congrArg (fun z => some (aI z)) ?_, ?_⟩
      · unfold vCosts; first | exact (if_pos (by omega)).symm | exact (if_neg (by omega)).symm
      · exact ⟨b1.1.2.1, co_P b1.2⟩
set_option maxHeartbeats 4000000 in
set_option maxRecDepth 100000 in
theorem ct_X9_likeness (g : ax_G) (M : ax_M) (d h : Int) (S : ax_M) (H0 : bs S M) (H1 : SI S) (H2 : -2147483648 ≤ d ∧ d ≤ 2147483647 ∧ -2147483648 ≤ h ∧ h ≤ 2147483647) : CT g md_X9_likeness 5 [aR 9, aI d, aI h] M (pIR (vLik S d h) (fun M2 => bs (S) M2 ∧ co M M2)) := by
  refine ct_intro 0 rfl rfl ?_
  intro X hg B Br
  subst hg
  show AW X 0 [some (aR 9), some (aI d), some (aI h)] [] M
  refine rr_rg (fun G0 => ?_)
  have HB := H0
  refine rr_aload0 (pc := 0) B dX9_likeness_0 ?_
  refine rr_iload1 (pc := 1) B dX9_likeness_1 ?_
  refine rc_VIR1 (pc := 2) B dX9_likeness_2 vm_X9_isDeed lk_9_142 so_9 rfl (ct_X9_isDeed _ _ _ _ (by exact H0) (by first | exact H0 | omega)) (Nat.le_of_ble_eq_true rfl) (Nat.le_of_ble_eq_true rfl) (fun Mb1 b1 => ?_)
  refine rr_if_eqB 24 (pc := 5) B dX9_likeness_5 (by decide) (fun b2 => ?_) (fun b2 => ?_)
  · replace b2 := of_decide_eq_false b2
    refine rr_bipush (z := (-2)) (pc := 24) B dX9_likeness_24 (by decide) ?_
    refine rr_ireturn (pc := 26) B Br dX9_likeness_26 ⟨congrArg (fun z => some (aI z)) ?_, ?_⟩
    · unfold vLik; first | exact (if_pos (by omega)).symm | exact (if_neg (by omega)).symm
    · exact ⟨b1.1.2.1, co_P b1.2⟩
  · replace b2 := of_decide_eq_true b2
    refine rr_iload2 (pc := 8) B dX9_likeness_8 ?_
    refine rc_SI1 (pc := 9) B dX9_likeness_9 st_X9_isHour lk_9_155 (ct_X9_isHour _ _ _  (by omega)) (Nat.le_of_ble_eq_true rfl) (Nat.le_of_ble_eq_true rfl) ?_
    refine rr_if_eqB 24 (pc := 12) B dX9_likeness_12 (by decide) (fun b3 => ?_) (fun b3 => ?_)
    · replace b3 := of_decide_eq_false b3
      refine rr_bipush (z := (-2)) (pc := 24) B dX9_likeness_24 (by decide) ?_
      refine rr_ireturn (pc := 26) B Br dX9_likeness_26 ⟨congrArg (fun z => some (aI z)) ?_, ?_⟩
      · unfold vLik; first | exact (if_pos (by omega)).symm | exact (if_neg (by omega)).symm
      · exact ⟨b1.1.2.1, co_P b1.2⟩
    · replace b3 := of_decide_eq_true b3
      refine rr_aload0 (pc := 15) B dX9_likeness_15 ?_
      refine rr_iload1 (pc := 16) B dX9_likeness_16 ?_
      refine rr_iload2 (pc := 17) B dX9_likeness_17 ?_
      refine rc_VI2 (pc := 18) B dX9_likeness_18 vm_X9_likenessOf lk_9_226 so_9 rfl (ct_X9_likenessOf _ _ _ _ (vw S) (b1.1.1) (by omega) (by omega) (by exact b1.1.2.2 d (by omega) (by omega))) (Nat.le_of_ble_eq_true rfl) (Nat.le_of_ble_eq_true rfl) ?_
      refine rr_goto 26 (pc := 21) B dX9_likeness_21 (by decide) ?_
      refine rr_ireturn (pc := 26) B Br dX9_likeness_26 ⟨congrArg (fun z => some (aI z)) ?_, ?_⟩
      · unfold vLik; first | exact (if_pos (by omega)).symm | exact (if_neg (by omega)).symm
      · exact ⟨b1.1.2.1, co_P b1.2⟩
set_option maxHeartbeats 4000000 in
set_option maxRecDepth 100000 in
theorem ct_X9_odds (g : ax_G) (M : ax_M) (d h w : Int) (S : ax_M) (H0 : bs S M) (H1 : SI S) (H2 : -2147483648 ≤ d ∧ d ≤ 2147483647 ∧ -2147483648 ≤ h ∧ h ≤ 2147483647 ∧ -2147483648 ≤ w ∧ w ≤ 2147483647) : CT g md_X9_odds 5 [aR 9, aI d, aI h, aI w] M (pLR (vOdds S d h w) (fun M2 => bs (S) M2 ∧ co M M2)) := by
  refine ct_intro 0 rfl rfl ?_
  intro X hg B Br
  subst hg
  show AW X 0 [some (aR 9), some (aI d), some (aI h), some (aI w)] [] M
  refine rr_rg (fun G0 => ?_)
  have HB := H0
  refine rr_aload0 (pc := 0) B dX9_odds_0 ?_
  refine rr_iload1 (pc := 1) B dX9_odds_1 ?_
  refine rc_VIR1 (pc := 2) B dX9_odds_2 vm_X9_isDeed lk_9_142 so_9 rfl (ct_X9_isDeed _ _ _ _ (by exact H0) (by first | exact H0 | omega)) (Nat.le_of_ble_eq_true rfl) (Nat.le_of_ble_eq_true rfl) (fun Mb1 b1 => ?_)
  refine rr_if_eqB 34 (pc := 5) B dX9_odds_5 (by decide) (fun b2 => ?_) (fun b2 => ?_)
  · replace b2 := of_decide_eq_false b2
    refine rr_bipush (z := (-2)) (pc := 34) B dX9_odds_34 (by decide) ?_
    refine rc_SL1 (pc := 36) B dX9_odds_36 st_X9_no lk_9_229 (ct_X9_no _ _ _  (by omega)) (Nat.le_of_ble_eq_true rfl) (Nat.le_of_ble_eq_true rfl) ?_
    refine rr_lreturn (pc := 39) B Br dX9_odds_39 ⟨congrArg (fun z => some (aL z)) ?_, ?_⟩
    · unfold vOdds; first | exact (if_pos (by omega)).symm | exact (if_neg (by omega)).symm
    · exact ⟨b1.1.2.1, co_P b1.2⟩
  · replace b2 := of_decide_eq_true b2
    refine rr_iload2 (pc := 8) B dX9_odds_8 ?_
    refine rc_SI1 (pc := 9) B dX9_odds_9 st_X9_isHour lk_9_155 (ct_X9_isHour _ _ _  (by omega)) (Nat.le_of_ble_eq_true rfl) (Nat.le_of_ble_eq_true rfl) ?_
    refine rr_if_eqB 34 (pc := 12) B dX9_odds_12 (by decide) (fun b3 => ?_) (fun b3 => ?_)
    · replace b3 := of_decide_eq_false b3
      refine rr_bipush (z := (-2)) (pc := 34) B dX9_odds_34 (by decide) ?_
      refine rc_SL1 (pc := 36) B dX9_odds_36 st_X9_no lk_9_229 (ct_X9_no _ _ _  (by omega)) (Nat.le_of_ble_eq_true rfl) (Nat.le_of_ble_eq_true rfl) ?_
      refine rr_lreturn (pc := 39) B Br dX9_odds_39 ⟨congrArg (fun z => some (aL z)) ?_, ?_⟩
      · unfold vOdds; first | exact (if_pos (by omega)).symm | exact (if_neg (by omega)).symm
      · exact ⟨b1.1.2.1, co_P b1.2⟩
    · replace b3 := of_decide_eq_true b3
      refine rr_iload3 (pc := 15) B dX9_odds_15 ?_
      refine rr_iconst (z := 0) (pc := 16) B dX9_odds_16 ?_
      refine rr_iconst (z := 1) (pc := 17) B dX9_odds_17 ?_
      refine rc_SI3 (pc := 18) B dX9_odds_18 st_X9_in lk_9_103 (ct_X9_in _ _ _ _ _  (by omega)) (Nat.le_of_ble_eq_true rfl) (Nat.le_of_ble_eq_true rfl) ?_
      refine rr_if_eqB 34 (pc := 21) B dX9_odds_21 (by decide) (fun b4 => ?_) (fun b4 => ?_)
      · replace b4 := of_decide_eq_false b4
        refine rr_bipush (z := (-2)) (pc := 34) B dX9_odds_34 (by decide) ?_
        refine rc_SL1 (pc := 36) B dX9_odds_36 st_X9_no lk_9_229 (ct_X9_no _ _ _  (by omega)) (Nat.le_of_ble_eq_true rfl) (Nat.le_of_ble_eq_true rfl) ?_
        refine rr_lreturn (pc := 39) B Br dX9_odds_39 ⟨congrArg (fun z => some (aL z)) ?_, ?_⟩
        · unfold vOdds; first | exact (if_pos (by omega)).symm | exact (if_neg (by omega)).symm
        · exact ⟨b1.1.2.1, co_P b1.2⟩
      · replace b4 := of_decide_eq_true b4
        refine rr_aload0 (pc := 24) B dX9_odds_24 ?_
        refine rr_iload1 (pc := 25) B dX9_odds_25 ?_
        refine rr_iload2 (pc := 26) B dX9_odds_26 ?_
        refine rr_iload3 (pc := 27) B dX9_odds_27 ?_
        refine rc_VL3 (pc := 28) B dX9_odds_28 vm_X9_oddsOf lk_9_239 so_9 rfl (ct_X9_oddsOf _ _ _ _ _ (vw S) (b1.1.1) (by omega) (by omega) (by exact b1.1.2.2 d (by omega) (by omega)) (by omega)) (Nat.le_of_ble_eq_true rfl) (Nat.le_of_ble_eq_true rfl) ?_
        refine rr_goto 39 (pc := 31) B dX9_odds_31 (by decide) ?_
        refine rr_lreturn (pc := 39) B Br dX9_odds_39 ⟨congrArg (fun z => some (aL z)) ?_, ?_⟩
        · unfold vOdds; first | exact (if_pos (by omega)).symm | exact (if_neg (by omega)).symm
        · exact ⟨b1.1.2.1, co_P b1.2⟩
set_option maxHeartbeats 4000000 in
set_option maxRecDepth 100000 in
theorem ct_X9_ruleOf (g : ax_G) (M : ax_M) (k w : Int) (S : ax_M) (H0 : bs S M) (H1 : 0 ≤ k ∧ k ≤ 3) (H2 : 0 ≤ w ∧ w ≤ 2) : CT g md_X9_ruleOf 4 [aR 9, aI k, aI w] M (pIR (rOf (vw S) k w) (fun M2 => rdM S M2 ∧ frm exP M M2)) := by
  refine ct_intro 0 rfl rfl ?_
  intro X hg B Br
  subst hg
  show AW X 0 [some (aR 9), some (aI k), some (aI w)] [] M
  refine rr_rg (fun G0 => ?_)
  refine rr_aload0 (pc := 0) B dX9_ruleOf_0 ?_
  refine rc_VVR0 (pc := 1) B dX9_ruleOf_1 vm_X9_reads lk_9_139 so_9 rfl (ct_X9_reads _ _  _ (by exact H0)) (Nat.le_of_ble_eq_true rfl) (Nat.le_of_ble_eq_true rfl) (fun Mb1 b1 => ?_)
  refine rr_iload2 (pc := 4) B dX9_ruleOf_4 ?_
  refine rr_if_ne 17 (pc := 5) B dX9_ruleOf_5 (by decide) (by omega) (fun b2 => ?_) (fun b2 => ?_)
  · refine rr_iload2 (pc := 17) B dX9_ruleOf_17 ?_
    refine rr_iconst (z := 1) (pc := 18) B dX9_ruleOf_18 ?_
    refine rr_icmp_ne 31 (pc := 19) B dX9_ruleOf_19 (by decide) (by omega) (fun b3 => ?_) (fun b3 => ?_)
    · refine rr_aload0 (pc := 31) B dX9_ruleOf_31 ?_
      refine rr_getR (pc := 32) B dX9_ruleOf_32 fl_9_37 or_9_11 ?_
      refine rr_iload1 (pc := 35) B dX9_ruleOf_35 ?_
      refine rr_ialoadE (pc := 36) B dX9_ruleOf_36 sa_54 (by omega) (b1.1.1 54 _ ⟨by omega, by omega⟩) (fun b4 => ?_)
      refine rr_ireturn (pc := 37) B Br dX9_ruleOf_37 ⟨congrArg (fun z => some (aI z)) ?_, ?_⟩
      · unfold rOf; repeat (first | rw [if_pos (by omega)] | rw [if_neg (by omega)])
      · exact b1
    · refine rr_aload0 (pc := 22) B dX9_ruleOf_22 ?_
      refine rr_getR (pc := 23) B dX9_ruleOf_23 fl_9_34 or_9_10 ?_
      refine rr_iload1 (pc := 26) B dX9_ruleOf_26 ?_
      refine rr_ialoadE (pc := 27) B dX9_ruleOf_27 sa_53 (by omega) (b1.1.1 53 _ ⟨by omega, by omega⟩) (fun b4 => ?_)
      refine rr_goto 37 (pc := 28) B dX9_ruleOf_28 (by decide) ?_
      refine rr_ireturn (pc := 37) B Br dX9_ruleOf_37 ⟨congrArg (fun z => some (aI z)) ?_, ?_⟩
      · unfold rOf; repeat (first | rw [if_pos (by omega)] | rw [if_neg (by omega)])
      · exact b1
  · refine rr_aload0 (pc := 8) B dX9_ruleOf_8 ?_
    refine rr_getR (pc := 9) B dX9_ruleOf_9 fl_9_31 or_9_9 ?_
    refine rr_iload1 (pc := 12) B dX9_ruleOf_12 ?_
    refine rr_ialoadE (pc := 13) B dX9_ruleOf_13 sa_52 (by omega) (b1.1.1 52 _ ⟨by omega, by omega⟩) (fun b3 => ?_)
    refine rr_goto 37 (pc := 14) B dX9_ruleOf_14 (by decide) ?_
    refine rr_ireturn (pc := 37) B Br dX9_ruleOf_37 ⟨congrArg (fun z => some (aI z)) ?_, ?_⟩
    · unfold rOf; repeat (first | rw [if_pos (by omega)] | rw [if_neg (by omega)])
    · exact b1
set_option maxHeartbeats 4000000 in
set_option maxRecDepth 100000 in
theorem ct_X9_rule (g : ax_G) (M : ax_M) (k w : Int) (S : ax_M) (H0 : bs S M) (H1 : SI S) (H2 : -2147483648 ≤ k ∧ k ≤ 2147483647 ∧ -2147483648 ≤ w ∧ w ≤ 2147483647) : CT g md_X9_rule 5 [aR 9, aI k, aI w] M (pIR (vRule S k w) (fun M2 => bs (S) M2 ∧ co M M2)) := by
  refine ct_intro 0 rfl rfl ?_
  intro X hg B Br
  subst hg
  show AW X 0 [some (aR 9), some (aI k), some (aI w)] [] M
  refine rr_rg (fun G0 => ?_)
  have HB := H0
  refine rr_iload1 (pc := 0) B dX9_rule_0 ?_
  refine rr_iconst (z := 0) (pc := 1) B dX9_rule_1 ?_
  refine rr_iconst (z := 3) (pc := 2) B dX9_rule_2 ?_
  refine rc_SI3 (pc := 3) B dX9_rule_3 st_X9_in lk_9_103 (ct_X9_in _ _ _ _ _  (by omega)) (Nat.le_of_ble_eq_true rfl) (Nat.le_of_ble_eq_true rfl) ?_
  refine rr_if_eqB 27 (pc := 6) B dX9_rule_6 (by decide) (fun b1 => ?_) (fun b1 => ?_)
  · replace b1 := of_decide_eq_false b1
    refine rr_bipush (z := (-2)) (pc := 27) B dX9_rule_27 (by decide) ?_
    refine rr_ireturn (pc := 29) B Br dX9_rule_29 ⟨congrArg (fun z => some (aI z)) ?_, ?_⟩
    · unfold vRule; first | (rw [if_pos (by omega)]; done) | (rw [if_neg (by omega)]; done)
    · first | exact ⟨b3.1.2.1, co_P b3.2⟩ | exact ⟨H0, co_rfl M⟩
  · replace b1 := of_decide_eq_true b1
    refine rr_iload2 (pc := 9) B dX9_rule_9 ?_
    refine rr_iconst (z := 0) (pc := 10) B dX9_rule_10 ?_
    refine rr_iconst (z := 2) (pc := 11) B dX9_rule_11 ?_
    refine rc_SI3 (pc := 12) B dX9_rule_12 st_X9_in lk_9_103 (ct_X9_in _ _ _ _ _  (by omega)) (Nat.le_of_ble_eq_true rfl) (Nat.le_of_ble_eq_true rfl) ?_
    refine rr_if_eqB 27 (pc := 15) B dX9_rule_15 (by decide) (fun b2 => ?_) (fun b2 => ?_)
    · replace b2 := of_decide_eq_false b2
      refine rr_bipush (z := (-2)) (pc := 27) B dX9_rule_27 (by decide) ?_
      refine rr_ireturn (pc := 29) B Br dX9_rule_29 ⟨congrArg (fun z => some (aI z)) ?_, ?_⟩
      · unfold vRule; first | (rw [if_pos (by omega)]; done) | (rw [if_neg (by omega)]; done)
      · first | exact ⟨b3.1.2.1, co_P b3.2⟩ | exact ⟨H0, co_rfl M⟩
    · replace b2 := of_decide_eq_true b2
      refine rr_aload0 (pc := 18) B dX9_rule_18 ?_
      refine rr_iload1 (pc := 19) B dX9_rule_19 ?_
      refine rr_iload2 (pc := 20) B dX9_rule_20 ?_
      refine rc_VIR2 (pc := 21) B dX9_rule_21 vm_X9_ruleOf lk_9_149 so_9 rfl (ct_X9_ruleOf _ _ _ _ _ (by exact H0) (by omega) (by omega)) (Nat.le_of_ble_eq_true rfl) (Nat.le_of_ble_eq_true rfl) (fun Mb3 b3 => ?_)
      refine rr_goto 29 (pc := 24) B dX9_rule_24 (by decide) ?_
      refine rr_ireturn (pc := 29) B Br dX9_rule_29 ⟨congrArg (fun z => some (aI z)) ?_, ?_⟩
      · unfold vRule; first | (rw [if_pos (by omega)]; done) | (rw [if_neg (by omega)]; done)
      · first | exact ⟨b3.1.2.1, co_P b3.2⟩ | exact ⟨H0, co_rfl M⟩
set_option maxHeartbeats 4000000 in
set_option maxRecDepth 100000 in
theorem ct_X9_asked (g : ax_G) (M : ax_M) (p h : Int) (S : ax_M) (H0 : bs S M) (H1 : SI S) (H2 : -2147483648 ≤ p ∧ p ≤ 2147483647 ∧ -2147483648 ≤ h ∧ h ≤ 2147483647) : CT g md_X9_asked 4 [aR 9, aI p, aI h] M (pIR (vAsk S p h) (fun M2 => bs (S) M2 ∧ co M M2)) := by
  refine ct_intro 0 rfl rfl ?_
  intro X hg B Br
  subst hg
  show AW X 0 [some (aR 9), some (aI p), some (aI h)] [] M
  refine rr_rg (fun G0 => ?_)
  have HB := H0
  refine rr_iload1 (pc := 0) B dX9_asked_0 ?_
  refine rc_SI1 (pc := 1) B dX9_asked_1 st_X9_isPerson lk_9_152 (ct_X9_isPerson _ _ _  (by omega)) (Nat.le_of_ble_eq_true rfl) (Nat.le_of_ble_eq_true rfl) ?_
  refine rr_if_eqB 14 (pc := 4) B dX9_asked_4 (by decide) (fun b1 => ?_) (fun b1 => ?_)
  · replace b1 := of_decide_eq_false b1
    refine rr_bipush (z := (-2)) (pc := 14) B dX9_asked_14 (by decide) ?_
    refine rr_ireturn (pc := 16) B Br dX9_asked_16 ⟨congrArg (fun z => some (aI z)) ?_, ?_⟩
    · unfold vAsk; first | (rw [if_pos (by omega)]; done) | (rw [if_neg (by omega)]; done)
    · first | exact ⟨b3.1.2.1, co_P b3.2⟩ | exact ⟨H0, co_rfl M⟩
  · replace b1 := of_decide_eq_true b1
    refine rr_iload2 (pc := 7) B dX9_asked_7 ?_
    refine rc_SI1 (pc := 8) B dX9_asked_8 st_X9_isHour lk_9_155 (ct_X9_isHour _ _ _  (by omega)) (Nat.le_of_ble_eq_true rfl) (Nat.le_of_ble_eq_true rfl) ?_
    refine rr_if_neB 17 (pc := 11) B dX9_asked_11 (by decide) (fun b2 => ?_) (fun b2 => ?_)
    · replace b2 := of_decide_eq_true b2
      refine rr_aload0 (pc := 17) B dX9_asked_17 ?_
      refine rc_VVR0 (pc := 18) B dX9_asked_18 vm_X9_reads lk_9_139 so_9 rfl (ct_X9_reads _ _  _ (by exact H0)) (Nat.le_of_ble_eq_true rfl) (Nat.le_of_ble_eq_true rfl) (fun Mb3 b3 => ?_)
      refine rr_aload0 (pc := 21) B dX9_asked_21 ?_
      refine rr_iload1 (pc := 22) B dX9_asked_22 ?_
      refine rr_iload2 (pc := 23) B dX9_asked_23 ?_
      refine rc_VI2 (pc := 24) B dX9_asked_24 vm_X9_askedOf lk_9_220 so_9 rfl (ct_X9_askedOf _ _ _ _ (vw S) (b3.1.1) (by omega) (by omega)) (Nat.le_of_ble_eq_true rfl) (Nat.le_of_ble_eq_true rfl) ?_
      refine rr_ireturn (pc := 27) B Br dX9_asked_27 ⟨congrArg (fun z => some (aI z)) ?_, ?_⟩
      · unfold vAsk; first | (rw [if_pos (by omega)]; done) | (rw [if_neg (by omega)]; done)
      · first | exact ⟨b3.1.2.1, co_P b3.2⟩ | exact ⟨H0, co_rfl M⟩
    · replace b2 := of_decide_eq_false b2
      refine rr_bipush (z := (-2)) (pc := 14) B dX9_asked_14 (by decide) ?_
      refine rr_ireturn (pc := 16) B Br dX9_asked_16 ⟨congrArg (fun z => some (aI z)) ?_, ?_⟩
      · unfold vAsk; first | (rw [if_pos (by omega)]; done) | (rw [if_neg (by omega)]; done)
      · first | exact ⟨b3.1.2.1, co_P b3.2⟩ | exact ⟨H0, co_rfl M⟩
set_option maxHeartbeats 4000000 in
set_option maxRecDepth 100000 in
theorem ct_X9_weather (g : ax_G) (M : ax_M) (h v : Int) (S : ax_M) (H0 : bs S M) (H1 : SI S) (H2 : -2147483648 ≤ h ∧ h ≤ 2147483647 ∧ -2147483648 ≤ v ∧ v ≤ 2147483647) : CT g md_X9_weather 2 [aR 9, aI h, aI v] M (pIR (vWea S h v) (fun M2 => bs (sWea S h v) M2 ∧ co M M2)) := by
  refine ct_intro 1 rfl rfl ?_
  intro X hg B Br
  subst hg
  show AW X 0 [some (aR 9), some (aI h), some (aI v), none] [] M
  refine rr_rg (fun G0 => ?_)
  have HB := H0
  refine rr_iload1 (pc := 0) B dX9_weather_0 ?_
  refine rc_SI1 (pc := 1) B dX9_weather_1 st_X9_isHour lk_9_155 (ct_X9_isHour _ _ _  (by omega)) (Nat.le_of_ble_eq_true rfl) (Nat.le_of_ble_eq_true rfl) ?_
  refine rr_if_eqB 16 (pc := 4) B dX9_weather_4 (by decide) (fun b1 => ?_) (fun b1 => ?_)
  · replace b1 := of_decide_eq_false b1
    refine rr_bipush (z := (-2)) (pc := 16) B dX9_weather_16 (by decide) ?_
    refine rr_ireturn (pc := 18) B Br dX9_weather_18 ⟨congrArg (fun z => some (aI z)) ?_, ?_⟩
    · unfold vWea; first | (rw [if_pos (by omega)]; done) | (rw [if_neg (by omega)]; done)
    · unfold sWea; first | (rw [if_pos (by omega)]; exact ⟨bs_ms H0 _ _ _, co_ms (co_rfl M) (by decide)⟩) | (rw [if_neg (by omega)]; exact ⟨H0, co_rfl M⟩)
  · replace b1 := of_decide_eq_true b1
    refine rr_iload2 (pc := 7) B dX9_weather_7 ?_
    refine rr_iconst (z := 0) (pc := 8) B dX9_weather_8 ?_
    refine rr_iconst (z := 1) (pc := 9) B dX9_weather_9 ?_
    refine rc_SI3 (pc := 10) B dX9_weather_10 st_X9_in lk_9_103 (ct_X9_in _ _ _ _ _  (by omega)) (Nat.le_of_ble_eq_true rfl) (Nat.le_of_ble_eq_true rfl) ?_
    refine rr_if_neB 19 (pc := 13) B dX9_weather_13 (by decide) (fun b2 => ?_) (fun b2 => ?_)
    · replace b2 := of_decide_eq_true b2
      refine rr_aload0 (pc := 19) B dX9_weather_19 ?_
      refine rr_getR (pc := 20) B dX9_weather_20 fl_9_52 or_9_16 ?_
      refine rr_iload1 (pc := 23) B dX9_weather_23 ?_
      refine rr_ialoadE (pc := 24) B dX9_weather_24 sa_59 (by omega) (HB 59 _ rfl) (fun b3 => ?_)
      refine rr_istore3 (pc := 25) B dX9_weather_25 rfl ?_
      refine rr_aload0 (pc := 26) B dX9_weather_26 ?_
      refine rr_getR (pc := 27) B dX9_weather_27 fl_9_52 or_9_16 ?_
      refine rr_iload1 (pc := 30) B dX9_weather_30 ?_
      refine rr_iload2 (pc := 31) B dX9_weather_31 ?_
      refine rr_iastore (pc := 32) B dX9_weather_32 sa_59 (by omega) (by omega) ?_
      refine rr_iload3 (pc := 33) B dX9_weather_33 ?_
      refine rr_ireturn (pc := 34) B Br dX9_weather_34 ⟨congrArg (fun z => some (aI z)) ?_, ?_⟩
      · unfold vWea; first | (rw [if_pos (by omega)]; done) | (rw [if_neg (by omega)]; done)
      · unfold sWea; first | (rw [if_pos (by omega)]; exact ⟨bs_ms H0 _ _ _, co_ms (co_rfl M) (by decide)⟩) | (rw [if_neg (by omega)]; exact ⟨H0, co_rfl M⟩)
    · replace b2 := of_decide_eq_false b2
      refine rr_bipush (z := (-2)) (pc := 16) B dX9_weather_16 (by decide) ?_
      refine rr_ireturn (pc := 18) B Br dX9_weather_18 ⟨congrArg (fun z => some (aI z)) ?_, ?_⟩
      · unfold vWea; first | (rw [if_pos (by omega)]; done) | (rw [if_neg (by omega)]; done)
      · unfold sWea; first | (rw [if_pos (by omega)]; exact ⟨bs_ms H0 _ _ _, co_ms (co_rfl M) (by decide)⟩) | (rw [if_neg (by omega)]; exact ⟨H0, co_rfl M⟩)
set_option maxHeartbeats 4000000 in
set_option maxRecDepth 100000 in
theorem ct_X9_person (g : ax_G) (M : ax_M) (p w v : Int) (S : ax_M) (H0 : bs S M) (H1 : SI S) (H2 : -2147483648 ≤ p ∧ p ≤ 2147483647 ∧ -2147483648 ≤ w ∧ w ≤ 2147483647 ∧ -2147483648 ≤ v ∧ v ≤ 2147483647) : CT g md_X9_person 2 [aR 9, aI p, aI w, aI v] M (pIR (vPers S p w v) (fun M2 => bs (sPers S p w v) M2 ∧ co M M2)) := by
  refine ct_intro 1 rfl rfl ?_
  intro X hg B Br
  subst hg
  show AW X 0 [some (aR 9), some (aI p), some (aI w), some (aI v), none] [] M
  refine rr_rg (fun G0 => ?_)
  have HB := H0
  refine rr_iload1 (pc := 0) B dX9_person_0 ?_
  refine rc_SI1 (pc := 1) B dX9_person_1 st_X9_isPerson lk_9_152 (ct_X9_isPerson _ _ _  (by omega)) (Nat.le_of_ble_eq_true rfl) (Nat.le_of_ble_eq_true rfl) ?_
  refine rr_if_eqB 55 (pc := 4) B dX9_person_4 (by decide) (fun b1 => ?_) (fun b1 => ?_)
  · replace b1 := of_decide_eq_false b1
    refine rr_bipush (z := (-2)) (pc := 55) B dX9_person_55 (by decide) ?_
    refine rr_ireturn (pc := 57) B Br dX9_person_57 ⟨congrArg (fun z => some (aI z)) ?_, ?_⟩
    · unfold vPers pmx; repeat (first | rw [if_pos (by omega)] | rw [if_neg (by omega)])
    · unfold sPers pmx; repeat (first | rw [if_pos (by omega)] | rw [if_neg (by omega)])
      first | exact ⟨bs_ms H0 _ _ _, co_ms (co_rfl M) (by decide)⟩ | exact ⟨H0, co_rfl M⟩
  · replace b1 := of_decide_eq_true b1
    refine rr_iload2 (pc := 7) B dX9_person_7 ?_
    refine rr_iconst (z := 0) (pc := 8) B dX9_person_8 ?_
    refine rr_iconst (z := 3) (pc := 9) B dX9_person_9 ?_
    refine rc_SI3 (pc := 10) B dX9_person_10 st_X9_in lk_9_103 (ct_X9_in _ _ _ _ _  (by omega)) (Nat.le_of_ble_eq_true rfl) (Nat.le_of_ble_eq_true rfl) ?_
    refine rr_if_eqB 55 (pc := 13) B dX9_person_13 (by decide) (fun b2 => ?_) (fun b2 => ?_)
    · replace b2 := of_decide_eq_false b2
      refine rr_bipush (z := (-2)) (pc := 55) B dX9_person_55 (by decide) ?_
      refine rr_ireturn (pc := 57) B Br dX9_person_57 ⟨congrArg (fun z => some (aI z)) ?_, ?_⟩
      · unfold vPers pmx; repeat (first | rw [if_pos (by omega)] | rw [if_neg (by omega)])
      · unfold sPers pmx; repeat (first | rw [if_pos (by omega)] | rw [if_neg (by omega)])
        first | exact ⟨bs_ms H0 _ _ _, co_ms (co_rfl M) (by decide)⟩ | exact ⟨H0, co_rfl M⟩
    · replace b2 := of_decide_eq_true b2
      refine rr_iload3 (pc := 16) B dX9_person_16 ?_
      refine rr_iconst (z := 0) (pc := 17) B dX9_person_17 ?_
      refine rr_iload2 (pc := 18) B dX9_person_18 ?_
      refine rr_if_ne 27 (pc := 19) B dX9_person_19 (by decide) (by omega) (fun b3 => ?_) (fun b3 => ?_)
      · refine rr_iload2 (pc := 27) B dX9_person_27 ?_
        refine rr_iconst (z := 1) (pc := 28) B dX9_person_28 ?_
        refine rr_icmp_ne 37 (pc := 29) B dX9_person_29 (by decide) (by omega) (fun b4 => ?_) (fun b4 => ?_)
        · refine rr_iload2 (pc := 37) B dX9_person_37 ?_
          refine rr_iconst (z := 2) (pc := 38) B dX9_person_38 ?_
          refine rr_icmp_ne 47 (pc := 39) B dX9_person_39 (by decide) (by omega) (fun b5 => ?_) (fun b5 => ?_)
          · refine rr_bipush (z := 16) (pc := 47) B dX9_person_47 (by decide) ?_
            refine rc_SI3 (pc := 49) B dX9_person_49 st_X9_in lk_9_103 (ct_X9_in _ _ _ _ _  (by omega)) (Nat.le_of_ble_eq_true rfl) (Nat.le_of_ble_eq_true rfl) ?_
            refine rr_if_neB 58 (pc := 52) B dX9_person_52 (by decide) (fun b6 => ?_) (fun b6 => ?_)
            · replace b6 := of_decide_eq_true b6
              refine rr_iload2 (pc := 58) B dX9_person_58 ?_
              refine rr_if_ne 71 (pc := 59) B dX9_person_59 (by decide) (by omega) (fun b7 => ?_) (fun b7 => absurd b7 (by omega))
              refine rr_iload2 (pc := 71) B dX9_person_71 ?_
              refine rr_iconst (z := 1) (pc := 72) B dX9_person_72 ?_
              refine rr_icmp_ne 85 (pc := 73) B dX9_person_73 (by decide) (by omega) (fun b8 => ?_) (fun b8 => absurd b8 (by omega))
              refine rr_iload2 (pc := 85) B dX9_person_85 ?_
              refine rr_iconst (z := 2) (pc := 86) B dX9_person_86 ?_
              refine rr_icmp_ne 99 (pc := 87) B dX9_person_87 (by decide) (by omega) (fun b9 => ?_) (fun b9 => absurd b9 (by omega))
              refine rr_aload0 (pc := 99) B dX9_person_99 ?_
              refine rr_getR (pc := 100) B dX9_person_100 fl_9_49 or_9_15 ?_
              refine rr_iload1 (pc := 103) B dX9_person_103 ?_
              refine rr_ialoadE (pc := 104) B dX9_person_104 sa_58 (by omega) (HB 58 _ rfl) (fun b10 => ?_)
              refine rr_istore4 (pc := 105) B dX9_person_105 rfl ?_
              refine rr_iload2 (pc := 107) B dX9_person_107 ?_
              refine rr_if_ne 121 (pc := 108) B dX9_person_108 (by decide) (by omega) (fun b11 => ?_) (fun b11 => absurd b11 (by omega))
              refine rr_iload2 (pc := 121) B dX9_person_121 ?_
              refine rr_iconst (z := 1) (pc := 122) B dX9_person_122 ?_
              refine rr_icmp_ne 136 (pc := 123) B dX9_person_123 (by decide) (by omega) (fun b12 => ?_) (fun b12 => absurd b12 (by omega))
              refine rr_iload2 (pc := 136) B dX9_person_136 ?_
              refine rr_iconst (z := 2) (pc := 137) B dX9_person_137 ?_
              refine rr_icmp_ne 151 (pc := 138) B dX9_person_138 (by decide) (by omega) (fun b13 => ?_) (fun b13 => absurd b13 (by omega))
              refine rr_aload0 (pc := 151) B dX9_person_151 ?_
              refine rr_getR (pc := 152) B dX9_person_152 fl_9_49 or_9_15 ?_
              refine rr_iload1 (pc := 155) B dX9_person_155 ?_
              refine rr_iload3 (pc := 156) B dX9_person_156 ?_
              refine rr_iastore (pc := 157) B dX9_person_157 sa_58 (by omega) (by omega) ?_
              refine rr_iload4 (pc := 158) B dX9_person_158 ?_
              refine rr_ireturn (pc := 160) B Br dX9_person_160 ⟨congrArg (fun z => some (aI z)) ?_, ?_⟩
              · unfold vPers pmx; repeat (first | rw [if_pos (by omega)] | rw [if_neg (by omega)])
              · unfold sPers pmx; repeat (first | rw [if_pos (by omega)] | rw [if_neg (by omega)])
                first | exact ⟨bs_ms H0 _ _ _, co_ms (co_rfl M) (by decide)⟩ | exact ⟨H0, co_rfl M⟩
            · replace b6 := of_decide_eq_false b6
              refine rr_bipush (z := (-2)) (pc := 55) B dX9_person_55 (by decide) ?_
              refine rr_ireturn (pc := 57) B Br dX9_person_57 ⟨congrArg (fun z => some (aI z)) ?_, ?_⟩
              · unfold vPers pmx; repeat (first | rw [if_pos (by omega)] | rw [if_neg (by omega)])
              · unfold sPers pmx; repeat (first | rw [if_pos (by omega)] | rw [if_neg (by omega)])
                first | exact ⟨bs_ms H0 _ _ _, co_ms (co_rfl M) (by decide)⟩ | exact ⟨H0, co_rfl M⟩
          · refine rr_bipush (z := 99) (pc := 42) B dX9_person_42 (by decide) ?_
            refine rr_goto 49 (pc := 44) B dX9_person_44 (by decide) ?_
            refine rc_SI3 (pc := 49) B dX9_person_49 st_X9_in lk_9_103 (ct_X9_in _ _ _ _ _  (by omega)) (Nat.le_of_ble_eq_true rfl) (Nat.le_of_ble_eq_true rfl) ?_
            refine rr_if_neB 58 (pc := 52) B dX9_person_52 (by decide) (fun b6 => ?_) (fun b6 => ?_)
            · replace b6 := of_decide_eq_true b6
              refine rr_iload2 (pc := 58) B dX9_person_58 ?_
              refine rr_if_ne 71 (pc := 59) B dX9_person_59 (by decide) (by omega) (fun b7 => ?_) (fun b7 => absurd b7 (by omega))
              refine rr_iload2 (pc := 71) B dX9_person_71 ?_
              refine rr_iconst (z := 1) (pc := 72) B dX9_person_72 ?_
              refine rr_icmp_ne 85 (pc := 73) B dX9_person_73 (by decide) (by omega) (fun b8 => ?_) (fun b8 => absurd b8 (by omega))
              refine rr_iload2 (pc := 85) B dX9_person_85 ?_
              refine rr_iconst (z := 2) (pc := 86) B dX9_person_86 ?_
              refine rr_icmp_ne 99 (pc := 87) B dX9_person_87 (by decide) (by omega) (fun b9 => absurd b9 (by omega)) (fun b9 => ?_)
              refine rr_aload0 (pc := 90) B dX9_person_90 ?_
              refine rr_getR (pc := 91) B dX9_person_91 fl_9_46 or_9_14 ?_
              refine rr_iload1 (pc := 94) B dX9_person_94 ?_
              refine rr_ialoadE (pc := 95) B dX9_person_95 sa_57 (by omega) (HB 57 _ rfl) (fun b10 => ?_)
              refine rr_goto 105 (pc := 96) B dX9_person_96 (by decide) ?_
              refine rr_istore4 (pc := 105) B dX9_person_105 rfl ?_
              refine rr_iload2 (pc := 107) B dX9_person_107 ?_
              refine rr_if_ne 121 (pc := 108) B dX9_person_108 (by decide) (by omega) (fun b11 => ?_) (fun b11 => absurd b11 (by omega))
              refine rr_iload2 (pc := 121) B dX9_person_121 ?_
              refine rr_iconst (z := 1) (pc := 122) B dX9_person_122 ?_
              refine rr_icmp_ne 136 (pc := 123) B dX9_person_123 (by decide) (by omega) (fun b12 => ?_) (fun b12 => absurd b12 (by omega))
              refine rr_iload2 (pc := 136) B dX9_person_136 ?_
              refine rr_iconst (z := 2) (pc := 137) B dX9_person_137 ?_
              refine rr_icmp_ne 151 (pc := 138) B dX9_person_138 (by decide) (by omega) (fun b13 => absurd b13 (by omega)) (fun b13 => ?_)
              refine rr_aload0 (pc := 141) B dX9_person_141 ?_
              refine rr_getR (pc := 142) B dX9_person_142 fl_9_46 or_9_14 ?_
              refine rr_iload1 (pc := 145) B dX9_person_145 ?_
              refine rr_iload3 (pc := 146) B dX9_person_146 ?_
              refine rr_iastore (pc := 147) B dX9_person_147 sa_57 (by omega) (by omega) ?_
              refine rr_goto 158 (pc := 148) B dX9_person_148 (by decide) ?_
              refine rr_iload4 (pc := 158) B dX9_person_158 ?_
              refine rr_ireturn (pc := 160) B Br dX9_person_160 ⟨congrArg (fun z => some (aI z)) ?_, ?_⟩
              · unfold vPers pmx; repeat (first | rw [if_pos (by omega)] | rw [if_neg (by omega)])
              · unfold sPers pmx; repeat (first | rw [if_pos (by omega)] | rw [if_neg (by omega)])
                first | exact ⟨bs_ms H0 _ _ _, co_ms (co_rfl M) (by decide)⟩ | exact ⟨H0, co_rfl M⟩
            · replace b6 := of_decide_eq_false b6
              refine rr_bipush (z := (-2)) (pc := 55) B dX9_person_55 (by decide) ?_
              refine rr_ireturn (pc := 57) B Br dX9_person_57 ⟨congrArg (fun z => some (aI z)) ?_, ?_⟩
              · unfold vPers pmx; repeat (first | rw [if_pos (by omega)] | rw [if_neg (by omega)])
              · unfold sPers pmx; repeat (first | rw [if_pos (by omega)] | rw [if_neg (by omega)])
                first | exact ⟨bs_ms H0 _ _ _, co_ms (co_rfl M) (by decide)⟩ | exact ⟨H0, co_rfl M⟩
        · refine rr_bipush (z := 8) (pc := 32) B dX9_person_32 (by decide) ?_
          refine rr_goto 49 (pc := 34) B dX9_person_34 (by decide) ?_
          refine rc_SI3 (pc := 49) B dX9_person_49 st_X9_in lk_9_103 (ct_X9_in _ _ _ _ _  (by omega)) (Nat.le_of_ble_eq_true rfl) (Nat.le_of_ble_eq_true rfl) ?_
          refine rr_if_neB 58 (pc := 52) B dX9_person_52 (by decide) (fun b5 => ?_) (fun b5 => ?_)
          · replace b5 := of_decide_eq_true b5
            refine rr_iload2 (pc := 58) B dX9_person_58 ?_
            refine rr_if_ne 71 (pc := 59) B dX9_person_59 (by decide) (by omega) (fun b6 => ?_) (fun b6 => absurd b6 (by omega))
            refine rr_iload2 (pc := 71) B dX9_person_71 ?_
            refine rr_iconst (z := 1) (pc := 72) B dX9_person_72 ?_
            refine rr_icmp_ne 85 (pc := 73) B dX9_person_73 (by decide) (by omega) (fun b7 => absurd b7 (by omega)) (fun b7 => ?_)
            refine rr_aload0 (pc := 76) B dX9_person_76 ?_
            refine rr_getR (pc := 77) B dX9_person_77 fl_9_43 or_9_13 ?_
            refine rr_iload1 (pc := 80) B dX9_person_80 ?_
            refine rr_ialoadE (pc := 81) B dX9_person_81 sa_56 (by omega) (HB 56 _ rfl) (fun b8 => ?_)
            refine rr_goto 105 (pc := 82) B dX9_person_82 (by decide) ?_
            refine rr_istore4 (pc := 105) B dX9_person_105 rfl ?_
            refine rr_iload2 (pc := 107) B dX9_person_107 ?_
            refine rr_if_ne 121 (pc := 108) B dX9_person_108 (by decide) (by omega) (fun b9 => ?_) (fun b9 => absurd b9 (by omega))
            refine rr_iload2 (pc := 121) B dX9_person_121 ?_
            refine rr_iconst (z := 1) (pc := 122) B dX9_person_122 ?_
            refine rr_icmp_ne 136 (pc := 123) B dX9_person_123 (by decide) (by omega) (fun b10 => absurd b10 (by omega)) (fun b10 => ?_)
            refine rr_aload0 (pc := 126) B dX9_person_126 ?_
            refine rr_getR (pc := 127) B dX9_person_127 fl_9_43 or_9_13 ?_
            refine rr_iload1 (pc := 130) B dX9_person_130 ?_
            refine rr_iload3 (pc := 131) B dX9_person_131 ?_
            refine rr_iastore (pc := 132) B dX9_person_132 sa_56 (by omega) (by omega) ?_
            refine rr_goto 158 (pc := 133) B dX9_person_133 (by decide) ?_
            refine rr_iload4 (pc := 158) B dX9_person_158 ?_
            refine rr_ireturn (pc := 160) B Br dX9_person_160 ⟨congrArg (fun z => some (aI z)) ?_, ?_⟩
            · unfold vPers pmx; repeat (first | rw [if_pos (by omega)] | rw [if_neg (by omega)])
            · unfold sPers pmx; repeat (first | rw [if_pos (by omega)] | rw [if_neg (by omega)])
              first | exact ⟨bs_ms H0 _ _ _, co_ms (co_rfl M) (by decide)⟩ | exact ⟨H0, co_rfl M⟩
          · replace b5 := of_decide_eq_false b5
            refine rr_bipush (z := (-2)) (pc := 55) B dX9_person_55 (by decide) ?_
            refine rr_ireturn (pc := 57) B Br dX9_person_57 ⟨congrArg (fun z => some (aI z)) ?_, ?_⟩
            · unfold vPers pmx; repeat (first | rw [if_pos (by omega)] | rw [if_neg (by omega)])
            · unfold sPers pmx; repeat (first | rw [if_pos (by omega)] | rw [if_neg (by omega)])
              first | exact ⟨bs_ms H0 _ _ _, co_ms (co_rfl M) (by decide)⟩ | exact ⟨H0, co_rfl M⟩
      · refine rr_bipush (z := 7) (pc := 22) B dX9_person_22 (by decide) ?_
        refine rr_goto 49 (pc := 24) B dX9_person_24 (by decide) ?_
        refine rc_SI3 (pc := 49) B dX9_person_49 st_X9_in lk_9_103 (ct_X9_in _ _ _ _ _  (by omega)) (Nat.le_of_ble_eq_true rfl) (Nat.le_of_ble_eq_true rfl) ?_
        refine rr_if_neB 58 (pc := 52) B dX9_person_52 (by decide) (fun b4 => ?_) (fun b4 => ?_)
        · replace b4 := of_decide_eq_true b4
          refine rr_iload2 (pc := 58) B dX9_person_58 ?_
          refine rr_if_ne 71 (pc := 59) B dX9_person_59 (by decide) (by omega) (fun b5 => absurd b5 (by omega)) (fun b5 => ?_)
          refine rr_aload0 (pc := 62) B dX9_person_62 ?_
          refine rr_getR (pc := 63) B dX9_person_63 fl_9_40 or_9_12 ?_
          refine rr_iload1 (pc := 66) B dX9_person_66 ?_
          refine rr_ialoadE (pc := 67) B dX9_person_67 sa_55 (by omega) (HB 55 _ rfl) (fun b6 => ?_)
          refine rr_goto 105 (pc := 68) B dX9_person_68 (by decide) ?_
          refine rr_istore4 (pc := 105) B dX9_person_105 rfl ?_
          refine rr_iload2 (pc := 107) B dX9_person_107 ?_
          refine rr_if_ne 121 (pc := 108) B dX9_person_108 (by decide) (by omega) (fun b7 => absurd b7 (by omega)) (fun b7 => ?_)
          refine rr_aload0 (pc := 111) B dX9_person_111 ?_
          refine rr_getR (pc := 112) B dX9_person_112 fl_9_40 or_9_12 ?_
          refine rr_iload1 (pc := 115) B dX9_person_115 ?_
          refine rr_iload3 (pc := 116) B dX9_person_116 ?_
          refine rr_iastore (pc := 117) B dX9_person_117 sa_55 (by omega) (by omega) ?_
          refine rr_goto 158 (pc := 118) B dX9_person_118 (by decide) ?_
          refine rr_iload4 (pc := 158) B dX9_person_158 ?_
          refine rr_ireturn (pc := 160) B Br dX9_person_160 ⟨congrArg (fun z => some (aI z)) ?_, ?_⟩
          · unfold vPers pmx; repeat (first | rw [if_pos (by omega)] | rw [if_neg (by omega)])
          · unfold sPers pmx; repeat (first | rw [if_pos (by omega)] | rw [if_neg (by omega)])
            first | exact ⟨bs_ms H0 _ _ _, co_ms (co_rfl M) (by decide)⟩ | exact ⟨H0, co_rfl M⟩
        · replace b4 := of_decide_eq_false b4
          refine rr_bipush (z := (-2)) (pc := 55) B dX9_person_55 (by decide) ?_
          refine rr_ireturn (pc := 57) B Br dX9_person_57 ⟨congrArg (fun z => some (aI z)) ?_, ?_⟩
          · unfold vPers pmx; repeat (first | rw [if_pos (by omega)] | rw [if_neg (by omega)])
          · unfold sPers pmx; repeat (first | rw [if_pos (by omega)] | rw [if_neg (by omega)])
            first | exact ⟨bs_ms H0 _ _ _, co_ms (co_rfl M) (by decide)⟩ | exact ⟨H0, co_rfl M⟩
set_option maxHeartbeats 4000000 in
set_option maxRecDepth 100000 in
theorem ct_X9_set (g : ax_G) (M : ax_M) (w v : Int) (S : ax_M) (H0 : bs S M) (H1 : SI S) (H2 : -2147483648 ≤ w ∧ w ≤ 2147483647 ∧ -2147483648 ≤ v ∧ v ≤ 2147483647) : CT g md_X9_set 1 [aR 9, aI w, aI v] M (pIR (vSet S w v) (fun M2 => bs (sSet S w v) M2 ∧ co M M2)) := by
  refine ct_intro 1 rfl rfl ?_
  intro X hg B Br
  subst hg
  show AW X 0 [some (aR 9), some (aI w), some (aI v), none] [] M
  refine rr_rg (fun G0 => ?_)
  have HB := H0
  refine rr_iload1 (pc := 0) B dX9_set_0 ?_
  refine rr_iconst (z := 0) (pc := 1) B dX9_set_1 ?_
  refine rr_iconst (z := 3) (pc := 2) B dX9_set_2 ?_
  refine rc_SI3 (pc := 3) B dX9_set_3 st_X9_in lk_9_103 (ct_X9_in _ _ _ _ _  (by omega)) (Nat.le_of_ble_eq_true rfl) (Nat.le_of_ble_eq_true rfl) ?_
  refine rr_if_eqB 48 (pc := 6) B dX9_set_6 (by decide) (fun b1 => ?_) (fun b1 => ?_)
  · replace b1 := of_decide_eq_false b1
    refine rr_bipush (z := (-2)) (pc := 48) B dX9_set_48 (by decide) ?_
    refine rr_ireturn (pc := 50) B Br dX9_set_50 ⟨congrArg (fun z => some (aI z)) ?_, ?_⟩
    · unfold vSet smx; repeat (first | rw [if_pos (by omega)] | rw [if_neg (by omega)])
    · unfold sSet smx; repeat (first | rw [if_pos (by omega)] | rw [if_neg (by omega)])
      first | exact ⟨bs_ms H0 _ _ _, co_ms (co_rfl M) (by decide)⟩ | exact ⟨H0, co_rfl M⟩
  · replace b1 := of_decide_eq_true b1
    refine rr_iload2 (pc := 9) B dX9_set_9 ?_
    refine rr_iconst (z := 0) (pc := 10) B dX9_set_10 ?_
    refine rr_iload1 (pc := 11) B dX9_set_11 ?_
    refine rr_if_ne 20 (pc := 12) B dX9_set_12 (by decide) (by omega) (fun b2 => ?_) (fun b2 => ?_)
    · refine rr_iload1 (pc := 20) B dX9_set_20 ?_
      refine rr_iconst (z := 1) (pc := 21) B dX9_set_21 ?_
      refine rr_icmp_ne 29 (pc := 22) B dX9_set_22 (by decide) (by omega) (fun b3 => ?_) (fun b3 => ?_)
      · refine rr_iload1 (pc := 29) B dX9_set_29 ?_
        refine rr_iconst (z := 2) (pc := 30) B dX9_set_30 ?_
        refine rr_icmp_ne 40 (pc := 31) B dX9_set_31 (by decide) (by omega) (fun b4 => ?_) (fun b4 => ?_)
        · refine rr_bipush (z := 10) (pc := 40) B dX9_set_40 (by decide) ?_
          refine rc_SI3 (pc := 42) B dX9_set_42 st_X9_in lk_9_103 (ct_X9_in _ _ _ _ _  (by omega)) (Nat.le_of_ble_eq_true rfl) (Nat.le_of_ble_eq_true rfl) ?_
          refine rr_if_neB 51 (pc := 45) B dX9_set_45 (by decide) (fun b5 => ?_) (fun b5 => ?_)
          · replace b5 := of_decide_eq_true b5
            refine rr_aload0 (pc := 51) B dX9_set_51 ?_
            refine rr_getR (pc := 52) B dX9_set_52 fl_9_55 or_9_17 ?_
            refine rr_iload1 (pc := 55) B dX9_set_55 ?_
            refine rr_ialoadE (pc := 56) B dX9_set_56 sa_60 (by omega) (HB 60 _ rfl) (fun b6 => ?_)
            refine rr_istore3 (pc := 57) B dX9_set_57 rfl ?_
            refine rr_aload0 (pc := 58) B dX9_set_58 ?_
            refine rr_getR (pc := 59) B dX9_set_59 fl_9_55 or_9_17 ?_
            refine rr_iload1 (pc := 62) B dX9_set_62 ?_
            refine rr_iload2 (pc := 63) B dX9_set_63 ?_
            refine rr_iastore (pc := 64) B dX9_set_64 sa_60 (by omega) (by omega) ?_
            refine rr_iload3 (pc := 65) B dX9_set_65 ?_
            refine rr_ireturn (pc := 66) B Br dX9_set_66 ⟨congrArg (fun z => some (aI z)) ?_, ?_⟩
            · unfold vSet smx; repeat (first | rw [if_pos (by omega)] | rw [if_neg (by omega)])
            · unfold sSet smx; repeat (first | rw [if_pos (by omega)] | rw [if_neg (by omega)])
              first | exact ⟨bs_ms H0 _ _ _, co_ms (co_rfl M) (by decide)⟩ | exact ⟨H0, co_rfl M⟩
          · replace b5 := of_decide_eq_false b5
            refine rr_bipush (z := (-2)) (pc := 48) B dX9_set_48 (by decide) ?_
            refine rr_ireturn (pc := 50) B Br dX9_set_50 ⟨congrArg (fun z => some (aI z)) ?_, ?_⟩
            · unfold vSet smx; repeat (first | rw [if_pos (by omega)] | rw [if_neg (by omega)])
            · unfold sSet smx; repeat (first | rw [if_pos (by omega)] | rw [if_neg (by omega)])
              first | exact ⟨bs_ms H0 _ _ _, co_ms (co_rfl M) (by decide)⟩ | exact ⟨H0, co_rfl M⟩
        · refine rr_sipush (z := 999) (pc := 34) B dX9_set_34 (by decide) ?_
          refine rr_goto 42 (pc := 37) B dX9_set_37 (by decide) ?_
          refine rc_SI3 (pc := 42) B dX9_set_42 st_X9_in lk_9_103 (ct_X9_in _ _ _ _ _  (by omega)) (Nat.le_of_ble_eq_true rfl) (Nat.le_of_ble_eq_true rfl) ?_
          refine rr_if_neB 51 (pc := 45) B dX9_set_45 (by decide) (fun b5 => ?_) (fun b5 => ?_)
          · replace b5 := of_decide_eq_true b5
            refine rr_aload0 (pc := 51) B dX9_set_51 ?_
            refine rr_getR (pc := 52) B dX9_set_52 fl_9_55 or_9_17 ?_
            refine rr_iload1 (pc := 55) B dX9_set_55 ?_
            refine rr_ialoadE (pc := 56) B dX9_set_56 sa_60 (by omega) (HB 60 _ rfl) (fun b6 => ?_)
            refine rr_istore3 (pc := 57) B dX9_set_57 rfl ?_
            refine rr_aload0 (pc := 58) B dX9_set_58 ?_
            refine rr_getR (pc := 59) B dX9_set_59 fl_9_55 or_9_17 ?_
            refine rr_iload1 (pc := 62) B dX9_set_62 ?_
            refine rr_iload2 (pc := 63) B dX9_set_63 ?_
            refine rr_iastore (pc := 64) B dX9_set_64 sa_60 (by omega) (by omega) ?_
            refine rr_iload3 (pc := 65) B dX9_set_65 ?_
            refine rr_ireturn (pc := 66) B Br dX9_set_66 ⟨congrArg (fun z => some (aI z)) ?_, ?_⟩
            · unfold vSet smx; repeat (first | rw [if_pos (by omega)] | rw [if_neg (by omega)])
            · unfold sSet smx; repeat (first | rw [if_pos (by omega)] | rw [if_neg (by omega)])
              first | exact ⟨bs_ms H0 _ _ _, co_ms (co_rfl M) (by decide)⟩ | exact ⟨H0, co_rfl M⟩
          · replace b5 := of_decide_eq_false b5
            refine rr_bipush (z := (-2)) (pc := 48) B dX9_set_48 (by decide) ?_
            refine rr_ireturn (pc := 50) B Br dX9_set_50 ⟨congrArg (fun z => some (aI z)) ?_, ?_⟩
            · unfold vSet smx; repeat (first | rw [if_pos (by omega)] | rw [if_neg (by omega)])
            · unfold sSet smx; repeat (first | rw [if_pos (by omega)] | rw [if_neg (by omega)])
              first | exact ⟨bs_ms H0 _ _ _, co_ms (co_rfl M) (by decide)⟩ | exact ⟨H0, co_rfl M⟩
      · refine rr_iconst (z := 1) (pc := 25) B dX9_set_25 ?_
        refine rr_goto 42 (pc := 26) B dX9_set_26 (by decide) ?_
        refine rc_SI3 (pc := 42) B dX9_set_42 st_X9_in lk_9_103 (ct_X9_in _ _ _ _ _  (by omega)) (Nat.le_of_ble_eq_true rfl) (Nat.le_of_ble_eq_true rfl) ?_
        refine rr_if_neB 51 (pc := 45) B dX9_set_45 (by decide) (fun b4 => ?_) (fun b4 => ?_)
        · replace b4 := of_decide_eq_true b4
          refine rr_aload0 (pc := 51) B dX9_set_51 ?_
          refine rr_getR (pc := 52) B dX9_set_52 fl_9_55 or_9_17 ?_
          refine rr_iload1 (pc := 55) B dX9_set_55 ?_
          refine rr_ialoadE (pc := 56) B dX9_set_56 sa_60 (by omega) (HB 60 _ rfl) (fun b5 => ?_)
          refine rr_istore3 (pc := 57) B dX9_set_57 rfl ?_
          refine rr_aload0 (pc := 58) B dX9_set_58 ?_
          refine rr_getR (pc := 59) B dX9_set_59 fl_9_55 or_9_17 ?_
          refine rr_iload1 (pc := 62) B dX9_set_62 ?_
          refine rr_iload2 (pc := 63) B dX9_set_63 ?_
          refine rr_iastore (pc := 64) B dX9_set_64 sa_60 (by omega) (by omega) ?_
          refine rr_iload3 (pc := 65) B dX9_set_65 ?_
          refine rr_ireturn (pc := 66) B Br dX9_set_66 ⟨congrArg (fun z => some (aI z)) ?_, ?_⟩
          · unfold vSet smx; repeat (first | rw [if_pos (by omega)] | rw [if_neg (by omega)])
          · unfold sSet smx; repeat (first | rw [if_pos (by omega)] | rw [if_neg (by omega)])
            first | exact ⟨bs_ms H0 _ _ _, co_ms (co_rfl M) (by decide)⟩ | exact ⟨H0, co_rfl M⟩
        · replace b4 := of_decide_eq_false b4
          refine rr_bipush (z := (-2)) (pc := 48) B dX9_set_48 (by decide) ?_
          refine rr_ireturn (pc := 50) B Br dX9_set_50 ⟨congrArg (fun z => some (aI z)) ?_, ?_⟩
          · unfold vSet smx; repeat (first | rw [if_pos (by omega)] | rw [if_neg (by omega)])
          · unfold sSet smx; repeat (first | rw [if_pos (by omega)] | rw [if_neg (by omega)])
            first | exact ⟨bs_ms H0 _ _ _, co_ms (co_rfl M) (by decide)⟩ | exact ⟨H0, co_rfl M⟩
    · refine rr_bipush (z := 99) (pc := 15) B dX9_set_15 (by decide) ?_
      refine rr_goto 42 (pc := 17) B dX9_set_17 (by decide) ?_
      refine rc_SI3 (pc := 42) B dX9_set_42 st_X9_in lk_9_103 (ct_X9_in _ _ _ _ _  (by omega)) (Nat.le_of_ble_eq_true rfl) (Nat.le_of_ble_eq_true rfl) ?_
      refine rr_if_neB 51 (pc := 45) B dX9_set_45 (by decide) (fun b3 => ?_) (fun b3 => ?_)
      · replace b3 := of_decide_eq_true b3
        refine rr_aload0 (pc := 51) B dX9_set_51 ?_
        refine rr_getR (pc := 52) B dX9_set_52 fl_9_55 or_9_17 ?_
        refine rr_iload1 (pc := 55) B dX9_set_55 ?_
        refine rr_ialoadE (pc := 56) B dX9_set_56 sa_60 (by omega) (HB 60 _ rfl) (fun b4 => ?_)
        refine rr_istore3 (pc := 57) B dX9_set_57 rfl ?_
        refine rr_aload0 (pc := 58) B dX9_set_58 ?_
        refine rr_getR (pc := 59) B dX9_set_59 fl_9_55 or_9_17 ?_
        refine rr_iload1 (pc := 62) B dX9_set_62 ?_
        refine rr_iload2 (pc := 63) B dX9_set_63 ?_
        refine rr_iastore (pc := 64) B dX9_set_64 sa_60 (by omega) (by omega) ?_
        refine rr_iload3 (pc := 65) B dX9_set_65 ?_
        refine rr_ireturn (pc := 66) B Br dX9_set_66 ⟨congrArg (fun z => some (aI z)) ?_, ?_⟩
        · unfold vSet smx; repeat (first | rw [if_pos (by omega)] | rw [if_neg (by omega)])
        · unfold sSet smx; repeat (first | rw [if_pos (by omega)] | rw [if_neg (by omega)])
          first | exact ⟨bs_ms H0 _ _ _, co_ms (co_rfl M) (by decide)⟩ | exact ⟨H0, co_rfl M⟩
      · replace b3 := of_decide_eq_false b3
        refine rr_bipush (z := (-2)) (pc := 48) B dX9_set_48 (by decide) ?_
        refine rr_ireturn (pc := 50) B Br dX9_set_50 ⟨congrArg (fun z => some (aI z)) ?_, ?_⟩
        · unfold vSet smx; repeat (first | rw [if_pos (by omega)] | rw [if_neg (by omega)])
        · unfold sSet smx; repeat (first | rw [if_pos (by omega)] | rw [if_neg (by omega)])
          first | exact ⟨bs_ms H0 _ _ _, co_ms (co_rfl M) (by decide)⟩ | exact ⟨H0, co_rfl M⟩
set_option maxHeartbeats 4000000 in
set_option maxRecDepth 100000 in
theorem ct_X9_type (g : ax_G) (M : ax_M) (x b : Int) (S : ax_M) (H0 : bs S M) (H1 : SI S) (H2 : -2147483648 ≤ x ∧ x ≤ 2147483647 ∧ -2147483648 ≤ b ∧ b ≤ 2147483647) : CT g md_X9_type 1 [aR 9, aI x, aI b] M (pIR (vType S x b) (fun M2 => bs (sType S x b) M2 ∧ co M M2)) := by
  refine ct_intro 0 rfl rfl ?_
  intro X hg B Br
  subst hg
  show AW X 0 [some (aR 9), some (aI x), some (aI b)] [] M
  refine rr_rg (fun G0 => ?_)
  have HB := H0
  refine rr_iload1 (pc := 0) B dX9_type_0 ?_
  refine rr_iconst (z := 0) (pc := 1) B dX9_type_1 ?_
  refine rr_iconst (z := 1) (pc := 2) B dX9_type_2 ?_
  refine rc_SI3 (pc := 3) B dX9_type_3 st_X9_in lk_9_103 (ct_X9_in _ _ _ _ _  (by omega)) (Nat.le_of_ble_eq_true rfl) (Nat.le_of_ble_eq_true rfl) ?_
  refine rr_if_eqB 20 (pc := 6) B dX9_type_6 (by decide) (fun b1 => ?_) (fun b1 => ?_)
  · replace b1 := of_decide_eq_false b1
    refine rr_bipush (z := (-2)) (pc := 20) B dX9_type_20 (by decide) ?_
    refine rr_ireturn (pc := 22) B Br dX9_type_22 ⟨congrArg (fun z => some (aI z)) ?_, ?_⟩
    · unfold vType; repeat (first | rw [if_pos (by omega)] | rw [if_neg (by omega)])
    · unfold sType; repeat (first | rw [if_pos (by omega)] | rw [if_neg (by omega)])
      first | exact ⟨bs_ms (bs_ms H0 _ _ _) _ _ _, co_ms (co_ms (co_rfl M) (by decide)) (by decide)⟩ | exact ⟨H0, co_rfl M⟩
  · replace b1 := of_decide_eq_true b1
    refine rr_iload2 (pc := 9) B dX9_type_9 ?_
    refine rr_iconst (z := 0) (pc := 10) B dX9_type_10 ?_
    refine rr_sipush (z := 255) (pc := 11) B dX9_type_11 (by decide) ?_
    refine rc_SI3 (pc := 14) B dX9_type_14 st_X9_in lk_9_103 (ct_X9_in _ _ _ _ _  (by omega)) (Nat.le_of_ble_eq_true rfl) (Nat.le_of_ble_eq_true rfl) ?_
    refine rr_if_neB 23 (pc := 17) B dX9_type_17 (by decide) (fun b2 => ?_) (fun b2 => ?_)
    · replace b2 := of_decide_eq_true b2
      refine rr_aload0 (pc := 23) B dX9_type_23 ?_
      refine rr_getR (pc := 24) B dX9_type_24 fl_9_7 or_9_0 ?_
      refine rr_iload1 (pc := 27) B dX9_type_27 ?_
      refine rr_ialoadE (pc := 28) B dX9_type_28 sa_45 (by omega) (HB 45 _ rfl) (fun b3 => ?_)
      refine rr_iload1 (pc := 29) B dX9_type_29 ?_
      refine rr_if_ne 38 (pc := 30) B dX9_type_30 (by decide) (by omega) (fun b4 => ?_) (fun b4 => ?_)
      · refine rr_bipush (z := 40) (pc := 38) B dX9_type_38 (by decide) ?_
        refine rr_icmp_ne 46 (pc := 40) B dX9_type_40 (by decide) (by omega) (fun b5 => ?_) (fun b5 => ?_)
        · refine rr_aload0 (pc := 46) B dX9_type_46 ?_
          refine rr_getR (pc := 47) B dX9_type_47 fl_9_13 or_9_1 ?_
          refine rr_bipush (z := 80) (pc := 50) B dX9_type_50 (by decide) ?_
          refine rr_iload1 (pc := 52) B dX9_type_52 ?_
          refine rr_imul (pc := 53) B dX9_type_53 ?_
          refine rr_aload0 (pc := 54) B dX9_type_54 ?_
          refine rr_getR (pc := 55) B dX9_type_55 fl_9_7 or_9_0 ?_
          refine rr_iload1 (pc := 58) B dX9_type_58 ?_
          refine rr_ialoadE (pc := 59) B dX9_type_59 sa_45 (by omega) (HB 45 _ rfl) (fun b6 => ?_)
          refine rr_iadd (pc := 60) B dX9_type_60 ?_
          refine rr_iload2 (pc := 61) B dX9_type_61 ?_
          refine rr_iastore (pc := 62) B dX9_type_62 sa_46 (by have := H1.1; rcases (show x = 0 ∨ x = 1 by omega) with rfl | rfl <;> omega) (by omega) ?_
          refine rr_aload0 (pc := 63) B dX9_type_63 ?_
          refine rr_getR (pc := 64) B dX9_type_64 fl_9_7 or_9_0 ?_
          refine rr_iload1 (pc := 67) B dX9_type_67 ?_
          refine rr_dup2 (pc := 68) B dX9_type_68 rfl rfl ?_
          refine rr_ialoadE (pc := 69) B dX9_type_69 sa_45 (by omega) (HB 45 _ rfl) (fun b7 => ?_)
          refine rr_iconst (z := 1) (pc := 70) B dX9_type_70 ?_
          refine rr_iadd (pc := 71) B dX9_type_71 ?_
          refine rr_iastore (pc := 72) B dX9_type_72 sa_45 (by omega) (by have := H1.1; rcases (show x = 0 ∨ x = 1 by omega) with rfl | rfl <;> omega) ?_
          refine rr_aload0 (pc := 73) B dX9_type_73 ?_
          refine rr_getR (pc := 74) B dX9_type_74 fl_9_7 or_9_0 ?_
          refine rr_iload1 (pc := 77) B dX9_type_77 ?_
          refine rr_ialoadE (pc := 78) B dX9_type_78 sa_45 (by omega) (ms_at _ _ _ _) (fun b8 => ?_)
          refine rr_ireturn (pc := 79) B Br dX9_type_79 ⟨congrArg (fun z => some (aI z)) ?_, ?_⟩
          · unfold vType; repeat (first | rw [if_pos (by omega)] | rw [if_neg (by omega)])
          · unfold sType; repeat (first | rw [if_pos (by omega)] | rw [if_neg (by omega)])
            first | exact ⟨bs_ms (bs_ms H0 _ _ _) _ _ _, co_ms (co_ms (co_rfl M) (by decide)) (by decide)⟩ | exact ⟨H0, co_rfl M⟩
        · refine rr_bipush (z := (-4)) (pc := 43) B dX9_type_43 (by decide) ?_
          refine rr_ireturn (pc := 45) B Br dX9_type_45 ⟨congrArg (fun z => some (aI z)) ?_, ?_⟩
          · unfold vType; repeat (first | rw [if_pos (by omega)] | rw [if_neg (by omega)])
          · unfold sType; repeat (first | rw [if_pos (by omega)] | rw [if_neg (by omega)])
            first | exact ⟨bs_ms (bs_ms H0 _ _ _) _ _ _, co_ms (co_ms (co_rfl M) (by decide)) (by decide)⟩ | exact ⟨H0, co_rfl M⟩
      · refine rr_bipush (z := 80) (pc := 33) B dX9_type_33 (by decide) ?_
        refine rr_goto 40 (pc := 35) B dX9_type_35 (by decide) ?_
        refine rr_icmp_ne 46 (pc := 40) B dX9_type_40 (by decide) (by omega) (fun b5 => ?_) (fun b5 => ?_)
        · refine rr_aload0 (pc := 46) B dX9_type_46 ?_
          refine rr_getR (pc := 47) B dX9_type_47 fl_9_13 or_9_1 ?_
          refine rr_bipush (z := 80) (pc := 50) B dX9_type_50 (by decide) ?_
          refine rr_iload1 (pc := 52) B dX9_type_52 ?_
          refine rr_imul (pc := 53) B dX9_type_53 ?_
          refine rr_aload0 (pc := 54) B dX9_type_54 ?_
          refine rr_getR (pc := 55) B dX9_type_55 fl_9_7 or_9_0 ?_
          refine rr_iload1 (pc := 58) B dX9_type_58 ?_
          refine rr_ialoadE (pc := 59) B dX9_type_59 sa_45 (by omega) (HB 45 _ rfl) (fun b6 => ?_)
          refine rr_iadd (pc := 60) B dX9_type_60 ?_
          refine rr_iload2 (pc := 61) B dX9_type_61 ?_
          refine rr_iastore (pc := 62) B dX9_type_62 sa_46 (by have := H1.1; rcases (show x = 0 ∨ x = 1 by omega) with rfl | rfl <;> omega) (by omega) ?_
          refine rr_aload0 (pc := 63) B dX9_type_63 ?_
          refine rr_getR (pc := 64) B dX9_type_64 fl_9_7 or_9_0 ?_
          refine rr_iload1 (pc := 67) B dX9_type_67 ?_
          refine rr_dup2 (pc := 68) B dX9_type_68 rfl rfl ?_
          refine rr_ialoadE (pc := 69) B dX9_type_69 sa_45 (by omega) (HB 45 _ rfl) (fun b7 => ?_)
          refine rr_iconst (z := 1) (pc := 70) B dX9_type_70 ?_
          refine rr_iadd (pc := 71) B dX9_type_71 ?_
          refine rr_iastore (pc := 72) B dX9_type_72 sa_45 (by omega) (by have := H1.1; rcases (show x = 0 ∨ x = 1 by omega) with rfl | rfl <;> omega) ?_
          refine rr_aload0 (pc := 73) B dX9_type_73 ?_
          refine rr_getR (pc := 74) B dX9_type_74 fl_9_7 or_9_0 ?_
          refine rr_iload1 (pc := 77) B dX9_type_77 ?_
          refine rr_ialoadE (pc := 78) B dX9_type_78 sa_45 (by omega) (ms_at _ _ _ _) (fun b8 => ?_)
          refine rr_ireturn (pc := 79) B Br dX9_type_79 ⟨congrArg (fun z => some (aI z)) ?_, ?_⟩
          · unfold vType; repeat (first | rw [if_pos (by omega)] | rw [if_neg (by omega)])
          · unfold sType; repeat (first | rw [if_pos (by omega)] | rw [if_neg (by omega)])
            first | exact ⟨bs_ms (bs_ms H0 _ _ _) _ _ _, co_ms (co_ms (co_rfl M) (by decide)) (by decide)⟩ | exact ⟨H0, co_rfl M⟩
        · refine rr_bipush (z := (-4)) (pc := 43) B dX9_type_43 (by decide) ?_
          refine rr_ireturn (pc := 45) B Br dX9_type_45 ⟨congrArg (fun z => some (aI z)) ?_, ?_⟩
          · unfold vType; repeat (first | rw [if_pos (by omega)] | rw [if_neg (by omega)])
          · unfold sType; repeat (first | rw [if_pos (by omega)] | rw [if_neg (by omega)])
            first | exact ⟨bs_ms (bs_ms H0 _ _ _) _ _ _, co_ms (co_ms (co_rfl M) (by decide)) (by decide)⟩ | exact ⟨H0, co_rfl M⟩
    · replace b2 := of_decide_eq_false b2
      refine rr_bipush (z := (-2)) (pc := 20) B dX9_type_20 (by decide) ?_
      refine rr_ireturn (pc := 22) B Br dX9_type_22 ⟨congrArg (fun z => some (aI z)) ?_, ?_⟩
      · unfold vType; repeat (first | rw [if_pos (by omega)] | rw [if_neg (by omega)])
      · unfold sType; repeat (first | rw [if_pos (by omega)] | rw [if_neg (by omega)])
        first | exact ⟨bs_ms (bs_ms H0 _ _ _) _ _ _, co_ms (co_ms (co_rfl M) (by decide)) (by decide)⟩ | exact ⟨H0, co_rfl M⟩
set_option maxHeartbeats 4000000 in
set_option maxRecDepth 100000 in
theorem ct_X9_wipe (g : ax_G) (M : ax_M) (x : Int) (S : ax_M) (H0 : bs S M) (H1 : SI S) (H2 : -2147483648 ≤ x ∧ x ≤ 2147483647) : CT g md_X9_wipe 1 [aR 9, aI x] M (pIR (vWipe S x) (fun M2 => bs (sWipe S x) M2 ∧ co M M2)) := by
  refine ct_intro 1 rfl rfl ?_
  intro X hg B Br
  subst hg
  show AW X 0 [some (aR 9), some (aI x), none] [] M
  refine rr_rg (fun G0 => ?_)
  have HB := H0
  refine rr_iload1 (pc := 0) B dX9_wipe_0 ?_
  refine rr_iconst (z := 0) (pc := 1) B dX9_wipe_1 ?_
  refine rr_iconst (z := 1) (pc := 2) B dX9_wipe_2 ?_
  refine rc_SI3 (pc := 3) B dX9_wipe_3 st_X9_in lk_9_103 (ct_X9_in _ _ _ _ _  (by omega)) (Nat.le_of_ble_eq_true rfl) (Nat.le_of_ble_eq_true rfl) ?_
  refine rr_if_neB 12 (pc := 6) B dX9_wipe_6 (by decide) (fun b1 => ?_) (fun b1 => ?_)
  · replace b1 := of_decide_eq_true b1
    refine rr_aload0 (pc := 12) B dX9_wipe_12 ?_
    refine rr_getR (pc := 13) B dX9_wipe_13 fl_9_7 or_9_0 ?_
    refine rr_iload1 (pc := 16) B dX9_wipe_16 ?_
    refine rr_ialoadE (pc := 17) B dX9_wipe_17 sa_45 (by omega) (HB 45 _ rfl) (fun b2 => ?_)
    refine rr_istore2 (pc := 18) B dX9_wipe_18 rfl ?_
    refine rr_aload0 (pc := 19) B dX9_wipe_19 ?_
    refine rr_getR (pc := 20) B dX9_wipe_20 fl_9_7 or_9_0 ?_
    refine rr_iload1 (pc := 23) B dX9_wipe_23 ?_
    refine rr_iconst (z := 0) (pc := 24) B dX9_wipe_24 ?_
    refine rr_iastore (pc := 25) B dX9_wipe_25 sa_45 (by omega) (by omega) ?_
    refine rr_iload2 (pc := 26) B dX9_wipe_26 ?_
    refine rr_ireturn (pc := 27) B Br dX9_wipe_27 ⟨congrArg (fun z => some (aI z)) ?_, ?_⟩
    · unfold vWipe; repeat (first | rw [if_pos (by omega)] | rw [if_neg (by omega)])
    · unfold sWipe; repeat (first | rw [if_pos (by omega)] | rw [if_neg (by omega)])
      first | exact ⟨bs_ms H0 _ _ _, co_ms (co_rfl M) (by decide)⟩ | exact ⟨H0, co_rfl M⟩
  · replace b1 := of_decide_eq_false b1
    refine rr_bipush (z := (-2)) (pc := 9) B dX9_wipe_9 (by decide) ?_
    refine rr_ireturn (pc := 11) B Br dX9_wipe_11 ⟨congrArg (fun z => some (aI z)) ?_, ?_⟩
    · unfold vWipe; repeat (first | rw [if_pos (by omega)] | rw [if_neg (by omega)])
    · unfold sWipe; repeat (first | rw [if_pos (by omega)] | rw [if_neg (by omega)])
      first | exact ⟨bs_ms H0 _ _ _, co_ms (co_rfl M) (by decide)⟩ | exact ⟨H0, co_rfl M⟩
set_option maxHeartbeats 4000000 in
set_option maxRecDepth 100000 in
theorem ct_X9_meets (g : ax_G) (M : ax_M) (f : Int) (H0 : 0 ≤ f ∧ f ≤ 5) : CT g md_X9_meets 0 [aR 9, aI f] M (pI (-10 - f) (ms M 9 38 f)) := by
  refine ct_intro 0 rfl rfl ?_
  intro X hg B Br
  subst hg
  show AW X 0 [some (aR 9), some (aI f)] [] M
  refine rr_rg (fun G0 => ?_)
  refine rr_aload0 (pc := 0) B dX9_meets_0 ?_
  refine rr_iload1 (pc := 1) B dX9_meets_1 ?_
  refine rr_putI (pc := 2) B dX9_meets_2 fl_9_274 ob_9_38 fi_9_38 (by omega) ?_
  refine rr_bipush (z := (-10)) (pc := 5) B dX9_meets_5 (by decide) ?_
  refine rr_iload1 (pc := 7) B dX9_meets_7 ?_
  refine rr_isub (pc := 8) B dX9_meets_8 ?_
  refine rr_ireturn (pc := 9) B Br dX9_meets_9 ⟨congrArg (fun z => some (aI z)) ?_, ?_⟩
  · first | rfl | omega | (rw [decide_eq_true (by omega)]; rfl) | (rw [decide_eq_false (by omega)]; rfl) | (simp [*]; done)
  · first | rfl | assumption
set_option maxHeartbeats 4000000 in
set_option maxRecDepth 100000 in
theorem ct_X9_seen (g : ax_G) (M : ax_M) (p x h : Int) (S : ax_M) (H0 : bs S M) (H1 : SI S) (H2 : -2147483648 ≤ p ∧ p ≤ 2147483647 ∧ -2147483648 ≤ x ∧ x ≤ 2147483647 ∧ -2147483648 ≤ h ∧ h ≤ 2147483647) : CT g md_X9_seen 2 [aR 9, aI p, aI x, aI h] M (pIR (vSeen S p x h) (fun M2 => bs (sSeen S p x h) M2 ∧ co M M2)) := by
  refine ct_intro 0 rfl rfl ?_
  intro X hg B Br
  subst hg
  show AW X 0 [some (aR 9), some (aI p), some (aI x), some (aI h)] [] M
  refine rr_rg (fun G0 => ?_)
  have HB := H0
  refine rr_iload1 (pc := 0) B dX9_seen_0 ?_
  refine rc_SI1 (pc := 1) B dX9_seen_1 st_X9_isPerson lk_9_152 (ct_X9_isPerson _ _ _  (by omega)) (Nat.le_of_ble_eq_true rfl) (Nat.le_of_ble_eq_true rfl) ?_
  refine rr_if_eqB 23 (pc := 4) B dX9_seen_4 (by decide) (fun b1 => ?_) (fun b1 => ?_)
  · replace b1 := of_decide_eq_false b1
    refine rr_bipush (z := (-2)) (pc := 23) B dX9_seen_23 (by decide) ?_
    refine rr_ireturn (pc := 25) B Br dX9_seen_25 ⟨congrArg (fun z => some (aI z)) ?_, ?_⟩
    · unfold vSeen; repeat (first | rw [if_pos (by omega)] | rw [if_neg (by omega)])
      try omega
    · unfold sSeen; repeat (first | rw [if_pos (by omega)] | rw [if_neg (by omega)])
      first | exact ⟨bs_ms (bs_ms (bs_ms (bs_ms H0 _ _ _) _ _ _) _ _ _) _ _ _, co_ms (co_ms (co_ms (co_ms (co_rfl M) (by decide)) (by decide)) (by decide)) (by decide)⟩ | exact ⟨H0, co_rfl M⟩
  · replace b1 := of_decide_eq_true b1
    refine rr_iload2 (pc := 7) B dX9_seen_7 ?_
    refine rr_iconst (z := 0) (pc := 8) B dX9_seen_8 ?_
    refine rr_iconst (z := 5) (pc := 9) B dX9_seen_9 ?_
    refine rc_SI3 (pc := 10) B dX9_seen_10 st_X9_in lk_9_103 (ct_X9_in _ _ _ _ _  (by omega)) (Nat.le_of_ble_eq_true rfl) (Nat.le_of_ble_eq_true rfl) ?_
    refine rr_if_eqB 23 (pc := 13) B dX9_seen_13 (by decide) (fun b2 => ?_) (fun b2 => ?_)
    · replace b2 := of_decide_eq_false b2
      refine rr_bipush (z := (-2)) (pc := 23) B dX9_seen_23 (by decide) ?_
      refine rr_ireturn (pc := 25) B Br dX9_seen_25 ⟨congrArg (fun z => some (aI z)) ?_, ?_⟩
      · unfold vSeen; repeat (first | rw [if_pos (by omega)] | rw [if_neg (by omega)])
        try omega
      · unfold sSeen; repeat (first | rw [if_pos (by omega)] | rw [if_neg (by omega)])
        first | exact ⟨bs_ms (bs_ms (bs_ms (bs_ms H0 _ _ _) _ _ _) _ _ _) _ _ _, co_ms (co_ms (co_ms (co_ms (co_rfl M) (by decide)) (by decide)) (by decide)) (by decide)⟩ | exact ⟨H0, co_rfl M⟩
    · replace b2 := of_decide_eq_true b2
      refine rr_iload3 (pc := 16) B dX9_seen_16 ?_
      refine rc_SI1 (pc := 17) B dX9_seen_17 st_X9_isHour lk_9_155 (ct_X9_isHour _ _ _  (by omega)) (Nat.le_of_ble_eq_true rfl) (Nat.le_of_ble_eq_true rfl) ?_
      refine rr_if_neB 26 (pc := 20) B dX9_seen_20 (by decide) (fun b3 => ?_) (fun b3 => ?_)
      · replace b3 := of_decide_eq_true b3
        refine rr_aload0 (pc := 26) B dX9_seen_26 ?_
        refine rr_getIE (pc := 27) B dX9_seen_27 fl_9_243 ob_9_26 (HB 9 _ rfl) (fun b4 => ?_)
        refine rr_bipush (z := 10) (pc := 30) B dX9_seen_30 (by decide) ?_
        refine rr_icmp_ne 38 (pc := 32) B dX9_seen_32 (by decide) (by omega) (fun b5 => ?_) (fun b5 => ?_)
        · refine rr_aload0 (pc := 38) B dX9_seen_38 ?_
          refine rr_getR (pc := 39) B dX9_seen_39 fl_9_70 or_9_27 ?_
          refine rr_aload0 (pc := 42) B dX9_seen_42 ?_
          refine rr_getIE (pc := 43) B dX9_seen_43 fl_9_243 ob_9_26 (HB 9 _ rfl) (fun b6 => ?_)
          refine rr_iload1 (pc := 46) B dX9_seen_46 ?_
          refine rr_iastore (pc := 47) B dX9_seen_47 sa_65 (by omega) (by omega) ?_
          refine rr_aload0 (pc := 48) B dX9_seen_48 ?_
          refine rr_getR (pc := 49) B dX9_seen_49 fl_9_73 or_9_28 ?_
          refine rr_aload0 (pc := 52) B dX9_seen_52 ?_
          refine rr_getIE (pc := 53) B dX9_seen_53 fl_9_243 ob_9_26 (HB 9 _ rfl) (fun b7 => ?_)
          refine rr_iload2 (pc := 56) B dX9_seen_56 ?_
          refine rr_iastore (pc := 57) B dX9_seen_57 sa_66 (by omega) (by omega) ?_
          refine rr_aload0 (pc := 58) B dX9_seen_58 ?_
          refine rr_getR (pc := 59) B dX9_seen_59 fl_9_76 or_9_29 ?_
          refine rr_aload0 (pc := 62) B dX9_seen_62 ?_
          refine rr_getIE (pc := 63) B dX9_seen_63 fl_9_243 ob_9_26 (HB 9 _ rfl) (fun b8 => ?_)
          refine rr_iload3 (pc := 66) B dX9_seen_66 ?_
          refine rr_iastore (pc := 67) B dX9_seen_67 sa_67 (by omega) (by omega) ?_
          refine rr_aload0 (pc := 68) B dX9_seen_68 ?_
          refine rr_dup (pc := 69) B dX9_seen_69 rfl ?_
          refine rr_getIE (pc := 70) B dX9_seen_70 fl_9_243 ob_9_26 (HB 9 _ rfl) (fun b9 => ?_)
          refine rr_iconst (z := 1) (pc := 73) B dX9_seen_73 ?_
          refine rr_iadd (pc := 74) B dX9_seen_74 ?_
          refine rr_putI (pc := 75) B dX9_seen_75 fl_9_243 ob_9_26 fi_9_26 (by omega) ?_
          refine rr_aload0 (pc := 78) B dX9_seen_78 ?_
          refine rr_getIE (pc := 79) B dX9_seen_79 fl_9_243 ob_9_26 (ms_at _ _ _ _) (fun b10 => ?_)
          refine rr_iconst (z := 1) (pc := 82) B dX9_seen_82 ?_
          refine rr_isub (pc := 83) B dX9_seen_83 ?_
          refine rr_ireturn (pc := 84) B Br dX9_seen_84 ⟨congrArg (fun z => some (aI z)) ?_, ?_⟩
          · unfold vSeen; repeat (first | rw [if_pos (by omega)] | rw [if_neg (by omega)])
            try omega
          · unfold sSeen; repeat (first | rw [if_pos (by omega)] | rw [if_neg (by omega)])
            first | exact ⟨bs_ms (bs_ms (bs_ms (bs_ms H0 _ _ _) _ _ _) _ _ _) _ _ _, co_ms (co_ms (co_ms (co_ms (co_rfl M) (by decide)) (by decide)) (by decide)) (by decide)⟩ | exact ⟨H0, co_rfl M⟩
        · refine rr_bipush (z := (-4)) (pc := 35) B dX9_seen_35 (by decide) ?_
          refine rr_ireturn (pc := 37) B Br dX9_seen_37 ⟨congrArg (fun z => some (aI z)) ?_, ?_⟩
          · unfold vSeen; repeat (first | rw [if_pos (by omega)] | rw [if_neg (by omega)])
            try omega
          · unfold sSeen; repeat (first | rw [if_pos (by omega)] | rw [if_neg (by omega)])
            first | exact ⟨bs_ms (bs_ms (bs_ms (bs_ms H0 _ _ _) _ _ _) _ _ _) _ _ _, co_ms (co_ms (co_ms (co_ms (co_rfl M) (by decide)) (by decide)) (by decide)) (by decide)⟩ | exact ⟨H0, co_rfl M⟩
      · replace b3 := of_decide_eq_false b3
        refine rr_bipush (z := (-2)) (pc := 23) B dX9_seen_23 (by decide) ?_
        refine rr_ireturn (pc := 25) B Br dX9_seen_25 ⟨congrArg (fun z => some (aI z)) ?_, ?_⟩
        · unfold vSeen; repeat (first | rw [if_pos (by omega)] | rw [if_neg (by omega)])
          try omega
        · unfold sSeen; repeat (first | rw [if_pos (by omega)] | rw [if_neg (by omega)])
          first | exact ⟨bs_ms (bs_ms (bs_ms (bs_ms H0 _ _ _) _ _ _) _ _ _) _ _ _, co_ms (co_ms (co_ms (co_ms (co_rfl M) (by decide)) (by decide)) (by decide)) (by decide)⟩ | exact ⟨H0, co_rfl M⟩
set_option maxHeartbeats 4000000 in
set_option maxRecDepth 100000 in
theorem ct_X9_isFalse (g : ax_G) (M : ax_M) (a b : Int) (S : ax_M) (H0 : bs S M) (H1 : SI S) (H2 : -2147483648 ≤ a ∧ a ≤ 2147483647 ∧ -2147483648 ≤ b ∧ b ≤ 2147483647) : CT g md_X9_isFalse 2 [aR 9, aI a, aI b] M (pIR (vFalse S a b) (fun M2 => bs (S) M2 ∧ co M M2)) := by
  refine ct_intro 0 rfl rfl ?_
  intro X hg B Br
  subst hg
  show AW X 0 [some (aR 9), some (aI a), some (aI b)] [] M
  refine rr_rg (fun G0 => ?_)
  have HB := H0
  refine rr_aload0 (pc := 0) B dX9_isFalse_0 ?_
  refine rr_iload1 (pc := 1) B dX9_isFalse_1 ?_
  refine rc_VI1 (pc := 2) B dX9_isFalse_2 vm_X9_isSight lk_9_246 so_9 rfl (ct_X9_isSight _ _ _ (ov S M) (ov_ag H0) (by omega)) (Nat.le_of_ble_eq_true rfl) (Nat.le_of_ble_eq_true rfl) ?_
  refine rr_if_eqB 21 (pc := 5) B dX9_isFalse_5 (by decide) (fun b1 => ?_) (fun b1 => ?_)
  · replace b1 := of_decide_eq_false b1
    refine rr_bipush (z := (-2)) (pc := 21) B dX9_isFalse_21 (by decide) ?_
    refine rr_goto 40 (pc := 23) B dX9_isFalse_23 (by decide) ?_
    refine rr_ireturn (pc := 40) B Br dX9_isFalse_40 ⟨congrArg (fun z => some (aI z)) ?_, ?_⟩
    · unfold vFalse isS; first | (rw [if_pos ⟨b1, b2, by omega⟩, ← ov_arF S M a b, show arF (ov S M) a b = true by assumption]; rfl) | (rw [if_pos ⟨b1, b2, by omega⟩, ← ov_arF S M a b, show arF (ov S M) a b = false by assumption]; rfl) | (rw [if_neg]; rintro ⟨q1, q2, q3⟩; first | exact b1 q1 | exact b2 q2 | omega)
    · exact ⟨H0, co_rfl M⟩
  · replace b1 := of_decide_eq_true b1
    refine rr_aload0 (pc := 8) B dX9_isFalse_8 ?_
    refine rr_iload2 (pc := 9) B dX9_isFalse_9 ?_
    refine rc_VI1 (pc := 10) B dX9_isFalse_10 vm_X9_isSight lk_9_246 so_9 rfl (ct_X9_isSight _ _ _ (ov S M) (ov_ag H0) (by omega)) (Nat.le_of_ble_eq_true rfl) (Nat.le_of_ble_eq_true rfl) ?_
    refine rr_if_eqB 21 (pc := 13) B dX9_isFalse_13 (by decide) (fun b2 => ?_) (fun b2 => ?_)
    · replace b2 := of_decide_eq_false b2
      refine rr_bipush (z := (-2)) (pc := 21) B dX9_isFalse_21 (by decide) ?_
      refine rr_goto 40 (pc := 23) B dX9_isFalse_23 (by decide) ?_
      refine rr_ireturn (pc := 40) B Br dX9_isFalse_40 ⟨congrArg (fun z => some (aI z)) ?_, ?_⟩
      · unfold vFalse isS; first | (rw [if_pos ⟨b1, b2, by omega⟩, ← ov_arF S M a b, show arF (ov S M) a b = true by assumption]; rfl) | (rw [if_pos ⟨b1, b2, by omega⟩, ← ov_arF S M a b, show arF (ov S M) a b = false by assumption]; rfl) | (rw [if_neg]; rintro ⟨q1, q2, q3⟩; first | exact b1 q1 | exact b2 q2 | omega)
      · exact ⟨H0, co_rfl M⟩
    · replace b2 := of_decide_eq_true b2
      refine rr_iload1 (pc := 16) B dX9_isFalse_16 ?_
      refine rr_iload2 (pc := 17) B dX9_isFalse_17 ?_
      refine rr_icmp_ne 26 (pc := 18) B dX9_isFalse_18 (by decide) (by omega) (fun b3 => ?_) (fun b3 => ?_)
      · refine rr_aload0 (pc := 26) B dX9_isFalse_26 ?_
        refine rr_iload1 (pc := 27) B dX9_isFalse_27 ?_
        refine rr_iload2 (pc := 28) B dX9_isFalse_28 ?_
        refine rc_VI2 (pc := 29) B dX9_isFalse_29 vm_X9_areFalse lk_9_249 so_9 rfl (ct_X9_areFalse _ _ _ _ (ov S M) (ov_ag H0) (by show 0 ≤ a ∧ a < S 9 26; replace b1 : 0 ≤ a ∧ a ≤ S 9 26 - 1 := b1; omega) (by show 0 ≤ b ∧ b < S 9 26; replace b2 : 0 ≤ b ∧ b ≤ S 9 26 - 1 := b2; omega)) (Nat.le_of_ble_eq_true rfl) (Nat.le_of_ble_eq_true rfl) ?_
        refine rr_if_eqB 39 (pc := 32) B dX9_isFalse_32 (by decide) (fun b4 => ?_) (fun b4 => ?_)
        · refine rr_iconst (z := 0) (pc := 39) B dX9_isFalse_39 ?_
          refine rr_ireturn (pc := 40) B Br dX9_isFalse_40 ⟨congrArg (fun z => some (aI z)) ?_, ?_⟩
          · unfold vFalse isS; first | (rw [if_pos ⟨b1, b2, by omega⟩, ← ov_arF S M a b, show arF (ov S M) a b = true by assumption]; rfl) | (rw [if_pos ⟨b1, b2, by omega⟩, ← ov_arF S M a b, show arF (ov S M) a b = false by assumption]; rfl) | (rw [if_neg]; rintro ⟨q1, q2, q3⟩; first | exact b1 q1 | exact b2 q2 | omega)
          · exact ⟨H0, co_rfl M⟩
        · refine rr_iconst (z := 1) (pc := 35) B dX9_isFalse_35 ?_
          refine rr_goto 40 (pc := 36) B dX9_isFalse_36 (by decide) ?_
          refine rr_ireturn (pc := 40) B Br dX9_isFalse_40 ⟨congrArg (fun z => some (aI z)) ?_, ?_⟩
          · unfold vFalse isS; first | (rw [if_pos ⟨b1, b2, by omega⟩, ← ov_arF S M a b, show arF (ov S M) a b = true by assumption]; rfl) | (rw [if_pos ⟨b1, b2, by omega⟩, ← ov_arF S M a b, show arF (ov S M) a b = false by assumption]; rfl) | (rw [if_neg]; rintro ⟨q1, q2, q3⟩; first | exact b1 q1 | exact b2 q2 | omega)
          · exact ⟨H0, co_rfl M⟩
      · refine rr_bipush (z := (-2)) (pc := 21) B dX9_isFalse_21 (by decide) ?_
        refine rr_goto 40 (pc := 23) B dX9_isFalse_23 (by decide) ?_
        refine rr_ireturn (pc := 40) B Br dX9_isFalse_40 ⟨congrArg (fun z => some (aI z)) ?_, ?_⟩
        · unfold vFalse isS; first | (rw [if_pos ⟨b1, b2, by omega⟩, ← ov_arF S M a b, show arF (ov S M) a b = true by assumption]; rfl) | (rw [if_pos ⟨b1, b2, by omega⟩, ← ov_arF S M a b, show arF (ov S M) a b = false by assumption]; rfl) | (rw [if_neg]; rintro ⟨q1, q2, q3⟩; first | exact b1 q1 | exact b2 q2 | omega)
        · exact ⟨H0, co_rfl M⟩
set_option maxHeartbeats 4000000 in
set_option maxRecDepth 100000 in
theorem ct_X9_hats (g : ax_G) (M : ax_M) (w : Int) (S : ax_M) (H0 : bs S M) (H1 : SI S) (H2 : -2147483648 ≤ w ∧ w ≤ 2147483647) : CT g md_X9_hats 2 [aR 9, aI w] M (pIR (vHats S w) (fun M2 => bs (S) M2 ∧ co M M2)) := by
  refine ct_intro 0 rfl rfl ?_
  intro X hg B Br
  subst hg
  show AW X 0 [some (aR 9), some (aI w)] [] M
  refine rr_rg (fun G0 => ?_)
  have HB := H0
  refine rr_iload1 (pc := 0) B dX9_hats_0 ?_
  refine rr_iconst (z := 0) (pc := 1) B dX9_hats_1 ?_
  refine rr_iconst (z := 1) (pc := 2) B dX9_hats_2 ?_
  refine rc_SI3 (pc := 3) B dX9_hats_3 st_X9_in lk_9_103 (ct_X9_in _ _ _ _ _  (by omega)) (Nat.le_of_ble_eq_true rfl) (Nat.le_of_ble_eq_true rfl) ?_
  refine rr_if_eqB 17 (pc := 6) B dX9_hats_6 (by decide) (fun b1 => ?_) (fun b1 => ?_)
  · replace b1 := of_decide_eq_false b1
    refine rr_bipush (z := (-2)) (pc := 17) B dX9_hats_17 (by decide) ?_
    refine rr_ireturn (pc := 19) B Br dX9_hats_19 ⟨congrArg (fun z => some (aI z)) ?_, ?_⟩
    · unfold vHats; (try simp only [ov_htB]); first | exact (if_pos (by omega)).symm | exact (if_neg (by omega)).symm
    · exact ⟨H0, co_rfl M⟩
  · replace b1 := of_decide_eq_true b1
    refine rr_aload0 (pc := 9) B dX9_hats_9 ?_
    refine rr_iload1 (pc := 10) B dX9_hats_10 ?_
    refine rc_VI1 (pc := 11) B dX9_hats_11 vm_X9_hatsOf lk_9_252 so_9 rfl (ct_X9_hatsOf _ _ _ (ov S M) (ov_ag H0) (by omega)) (Nat.le_of_ble_eq_true rfl) (Nat.le_of_ble_eq_true rfl) ?_
    refine rr_goto 19 (pc := 14) B dX9_hats_14 (by decide) ?_
    refine rr_ireturn (pc := 19) B Br dX9_hats_19 ⟨congrArg (fun z => some (aI z)) ?_, ?_⟩
    · unfold vHats; (try simp only [ov_htB]); first | exact (if_pos (by omega)).symm | exact (if_neg (by omega)).symm
    · exact ⟨H0, co_rfl M⟩
set_option maxHeartbeats 4000000 in
set_option maxRecDepth 100000 in
theorem ct_X9_after (g : ax_G) (M : ax_M) (d e : Int) (S : ax_M) (H0 : bs S M) (H1 : SI S) (H2 : -2147483648 ≤ d ∧ d ≤ 2147483647 ∧ -2147483648 ≤ e ∧ e ≤ 2147483647) : CT g md_X9_after 1 [aR 9, aI d, aI e] M (pIR (vAft S d e) (fun M2 => bs (sAft S d e) M2 ∧ co M M2)) := by
  refine ct_intro 0 rfl rfl ?_
  intro X hg B Br
  subst hg
  show AW X 0 [some (aR 9), some (aI d), some (aI e)] [] M
  refine rr_rg (fun G0 => ?_)
  have HB := H0
  refine rr_iload1 (pc := 0) B dX9_after_0 ?_
  refine rr_iconst (z := 0) (pc := 1) B dX9_after_1 ?_
  refine rr_bipush (z := 7) (pc := 2) B dX9_after_2 (by decide) ?_
  refine rc_SI3 (pc := 4) B dX9_after_4 st_X9_in lk_9_103 (ct_X9_in _ _ _ _ _  (by omega)) (Nat.le_of_ble_eq_true rfl) (Nat.le_of_ble_eq_true rfl) ?_
  refine rr_if_eqB 25 (pc := 7) B dX9_after_7 (by decide) (fun b1 => ?_) (fun b1 => ?_)
  · replace b1 := of_decide_eq_false b1
    refine rr_bipush (z := (-2)) (pc := 25) B dX9_after_25 (by decide) ?_
    refine rr_ireturn (pc := 27) B Br dX9_after_27 ⟨congrArg (fun z => some (aI z)) ?_, ?_⟩
    · unfold vAft; repeat (first | rw [if_pos (by omega)] | rw [if_neg (by omega)])
      try rfl
    · unfold sAft; repeat (first | rw [if_pos (by omega)] | rw [if_neg (by omega)])
      first | exact ⟨bs_ms (bs_ms (bs_ms H0 _ _ _) _ _ _) _ _ _, co_ms (co_ms (co_ms (co_rfl M) (by decide)) (by decide)) (by decide)⟩ | exact ⟨H0, co_rfl M⟩
  · replace b1 := of_decide_eq_true b1
    refine rr_iload2 (pc := 10) B dX9_after_10 ?_
    refine rr_iconst (z := 0) (pc := 11) B dX9_after_11 ?_
    refine rr_bipush (z := 7) (pc := 12) B dX9_after_12 (by decide) ?_
    refine rc_SI3 (pc := 14) B dX9_after_14 st_X9_in lk_9_103 (ct_X9_in _ _ _ _ _  (by omega)) (Nat.le_of_ble_eq_true rfl) (Nat.le_of_ble_eq_true rfl) ?_
    refine rr_if_eqB 25 (pc := 17) B dX9_after_17 (by decide) (fun b2 => ?_) (fun b2 => ?_)
    · replace b2 := of_decide_eq_false b2
      refine rr_bipush (z := (-2)) (pc := 25) B dX9_after_25 (by decide) ?_
      refine rr_ireturn (pc := 27) B Br dX9_after_27 ⟨congrArg (fun z => some (aI z)) ?_, ?_⟩
      · unfold vAft; repeat (first | rw [if_pos (by omega)] | rw [if_neg (by omega)])
        try rfl
      · unfold sAft; repeat (first | rw [if_pos (by omega)] | rw [if_neg (by omega)])
        first | exact ⟨bs_ms (bs_ms (bs_ms H0 _ _ _) _ _ _) _ _ _, co_ms (co_ms (co_ms (co_rfl M) (by decide)) (by decide)) (by decide)⟩ | exact ⟨H0, co_rfl M⟩
    · replace b2 := of_decide_eq_true b2
      refine rr_iload1 (pc := 20) B dX9_after_20 ?_
      refine rr_iload2 (pc := 21) B dX9_after_21 ?_
      refine rr_icmp_ne 28 (pc := 22) B dX9_after_22 (by decide) (by omega) (fun b3 => ?_) (fun b3 => ?_)
      · refine rr_aload0 (pc := 28) B dX9_after_28 ?_
        refine rr_getIE (pc := 29) B dX9_after_29 fl_9_255 ob_9_30 (HB 9 _ rfl) (fun b4 => ?_)
        refine rr_bipush (z := 10) (pc := 32) B dX9_after_32 (by decide) ?_
        refine rr_icmp_ne 40 (pc := 34) B dX9_after_34 (by decide) (by omega) (fun b5 => ?_) (fun b5 => ?_)
        · refine rr_aload0 (pc := 40) B dX9_after_40 ?_
          refine rr_getR (pc := 41) B dX9_after_41 fl_9_79 or_9_31 ?_
          refine rr_aload0 (pc := 44) B dX9_after_44 ?_
          refine rr_getIE (pc := 45) B dX9_after_45 fl_9_255 ob_9_30 (HB 9 _ rfl) (fun b6 => ?_)
          refine rr_iload1 (pc := 48) B dX9_after_48 ?_
          refine rr_iastore (pc := 49) B dX9_after_49 sa_68 (by omega) (by omega) ?_
          refine rr_aload0 (pc := 50) B dX9_after_50 ?_
          refine rr_getR (pc := 51) B dX9_after_51 fl_9_82 or_9_32 ?_
          refine rr_aload0 (pc := 54) B dX9_after_54 ?_
          refine rr_getIE (pc := 55) B dX9_after_55 fl_9_255 ob_9_30 (HB 9 _ rfl) (fun b7 => ?_)
          refine rr_iload2 (pc := 58) B dX9_after_58 ?_
          refine rr_iastore (pc := 59) B dX9_after_59 sa_69 (by omega) (by omega) ?_
          refine rr_aload0 (pc := 60) B dX9_after_60 ?_
          refine rr_dup (pc := 61) B dX9_after_61 rfl ?_
          refine rr_getIE (pc := 62) B dX9_after_62 fl_9_255 ob_9_30 (HB 9 _ rfl) (fun b8 => ?_)
          refine rr_iconst (z := 1) (pc := 65) B dX9_after_65 ?_
          refine rr_iadd (pc := 66) B dX9_after_66 ?_
          refine rr_putI (pc := 67) B dX9_after_67 fl_9_255 ob_9_30 fi_9_30 (by omega) ?_
          refine rr_aload0 (pc := 70) B dX9_after_70 ?_
          refine rr_getIE (pc := 71) B dX9_after_71 fl_9_255 ob_9_30 (ms_at _ _ _ _) (fun b9 => ?_)
          refine rr_ireturn (pc := 74) B Br dX9_after_74 ⟨congrArg (fun z => some (aI z)) ?_, ?_⟩
          · unfold vAft; repeat (first | rw [if_pos (by omega)] | rw [if_neg (by omega)])
            try rfl
          · unfold sAft; repeat (first | rw [if_pos (by omega)] | rw [if_neg (by omega)])
            first | exact ⟨bs_ms (bs_ms (bs_ms H0 _ _ _) _ _ _) _ _ _, co_ms (co_ms (co_ms (co_rfl M) (by decide)) (by decide)) (by decide)⟩ | exact ⟨H0, co_rfl M⟩
        · refine rr_bipush (z := (-4)) (pc := 37) B dX9_after_37 (by decide) ?_
          refine rr_ireturn (pc := 39) B Br dX9_after_39 ⟨congrArg (fun z => some (aI z)) ?_, ?_⟩
          · unfold vAft; repeat (first | rw [if_pos (by omega)] | rw [if_neg (by omega)])
            try rfl
          · unfold sAft; repeat (first | rw [if_pos (by omega)] | rw [if_neg (by omega)])
            first | exact ⟨bs_ms (bs_ms (bs_ms H0 _ _ _) _ _ _) _ _ _, co_ms (co_ms (co_ms (co_rfl M) (by decide)) (by decide)) (by decide)⟩ | exact ⟨H0, co_rfl M⟩
      · refine rr_bipush (z := (-2)) (pc := 25) B dX9_after_25 (by decide) ?_
        refine rr_ireturn (pc := 27) B Br dX9_after_27 ⟨congrArg (fun z => some (aI z)) ?_, ?_⟩
        · unfold vAft; repeat (first | rw [if_pos (by omega)] | rw [if_neg (by omega)])
          try rfl
        · unfold sAft; repeat (first | rw [if_pos (by omega)] | rw [if_neg (by omega)])
          first | exact ⟨bs_ms (bs_ms (bs_ms H0 _ _ _) _ _ _) _ _ _, co_ms (co_ms (co_ms (co_rfl M) (by decide)) (by decide)) (by decide)⟩ | exact ⟨H0, co_rfl M⟩
