set_option maxHeartbeats 4000000 in
set_option maxRecDepth 100000 in
theorem ct_X8_seen (g : ax_G) (M : ax_M) (p x h : Int) (S : ax_M) (H0 : RC S M) (H1 : SI S) (H2 : SR S) (H3 : -2147483648 ≤ p ∧ p ≤ 2147483647 ∧ -2147483648 ≤ x ∧ x ≤ 2147483647 ∧ -2147483648 ≤ h ∧ h ≤ 2147483647) : CT g md_X8_seen 4 [aR 8, aI p, aI x, aI h] M (pIR (vSeen S p x h) (fun M2 => RC (sSeen S p x h) M2 ∧ mo M M2)) := by
  refine ct_intro 0 rfl rfl ?_
  intro X hg B Br
  subst hg
  show AW X 0 [some (aR 8), some (aI p), some (aI x), some (aI h)] [] M
  refine rr_rg (fun G0 => ?_)
  have E3 : M 3 0 = S 9 30 := H0.2.2.1.1
  have G3 := G0.at ob_3_0.2.1
  have E7 : M 7 0 = S 9 26 := H0.2.2.2.1.1
  have G7 := G0.at ob_7_0.2.1
  refine rr_iload1 (pc := 0) B dX8_seen_0 ?_
  refine rr_bipush (z := 7) (pc := 1) B dX8_seen_1 (by decide) ?_
  refine rc_SI2 (pc := 3) B dX8_seen_3 st_X8_within lk_8_74 (ct_X8_within _ _ _ _  (by omega)) (Nat.le_of_ble_eq_true rfl) (Nat.le_of_ble_eq_true rfl) ?_
  refine rr_if_eqB 26 (pc := 6) B dX8_seen_6 (by decide) (fun b1 => ?_) (fun b1 => ?_)
  · replace b1 := of_decide_eq_false b1
    refine rr_bipush (z := (-2)) (pc := 26) B dX8_seen_26 (by decide) ?_
    refine rr_ireturn (pc := 28) B Br dX8_seen_28 ⟨congrArg (fun z => some (aI z)) ?_, ?_⟩
    · unfold vSeen; rw [if_neg (by omega)]
    · unfold sSeen; rw [if_neg (by omega)]; exact ⟨H0, mo_r M⟩
  · replace b1 := of_decide_eq_true b1
    refine rr_iload2 (pc := 9) B dX8_seen_9 ?_
    refine rr_iconst (z := 5) (pc := 10) B dX8_seen_10 ?_
    refine rc_SI2 (pc := 11) B dX8_seen_11 st_X8_within lk_8_74 (ct_X8_within _ _ _ _  (by omega)) (Nat.le_of_ble_eq_true rfl) (Nat.le_of_ble_eq_true rfl) ?_
    refine rr_if_eqB 26 (pc := 14) B dX8_seen_14 (by decide) (fun b2 => ?_) (fun b2 => ?_)
    · replace b2 := of_decide_eq_false b2
      refine rr_bipush (z := (-2)) (pc := 26) B dX8_seen_26 (by decide) ?_
      refine rr_ireturn (pc := 28) B Br dX8_seen_28 ⟨congrArg (fun z => some (aI z)) ?_, ?_⟩
      · unfold vSeen; rw [if_neg (by omega)]
      · unfold sSeen; rw [if_neg (by omega)]; exact ⟨H0, mo_r M⟩
    · replace b2 := of_decide_eq_true b2
      refine rr_iload3 (pc := 17) B dX8_seen_17 ?_
      refine rr_bipush (z := 7) (pc := 18) B dX8_seen_18 (by decide) ?_
      refine rc_SI2 (pc := 20) B dX8_seen_20 st_X8_within lk_8_74 (ct_X8_within _ _ _ _  (by omega)) (Nat.le_of_ble_eq_true rfl) (Nat.le_of_ble_eq_true rfl) ?_
      refine rr_if_neB 29 (pc := 23) B dX8_seen_23 (by decide) (fun b3 => ?_) (fun b3 => ?_)
      · replace b3 := of_decide_eq_true b3
        refine rr_aload0 (pc := 29) B dX8_seen_29 ?_
        refine rr_getR (pc := 30) B dX8_seen_30 fl_8_45 or_8_5 ?_
        refine rc_VI0 (pc := 33) B dX8_seen_33 vm_X7_isFull lk_8_237 so_7 rfl (ct_X7_isFull _ _   ) (Nat.le_of_ble_eq_true rfl) (Nat.le_of_ble_eq_true rfl) ?_
        refine rr_if_eqB 44 (pc := 36) B dX8_seen_36 (by decide) (fun b4 => ?_) (fun b4 => ?_)
        · replace b4 := of_decide_eq_false b4
          refine rr_aload0 (pc := 44) B dX8_seen_44 ?_
          refine rr_getR (pc := 45) B dX8_seen_45 fl_8_45 or_8_5 ?_
          refine rr_iload1 (pc := 48) B dX8_seen_48 ?_
          refine rr_iload2 (pc := 49) B dX8_seen_49 ?_
          refine rr_iload3 (pc := 50) B dX8_seen_50 ?_
          refine rc_VI3 (pc := 51) B dX8_seen_51 vm_X7_add lk_8_241 so_7 rfl (ct_X7_add _ _ _ _ _  (by omega) (by omega) (by omega) (by omega)) (Nat.le_of_ble_eq_true rfl) (Nat.le_of_ble_eq_true rfl) ?_
          refine rr_ireturn (pc := 54) B Br dX8_seen_54 ⟨congrArg (fun z => some (aI z)) ?_, ?_⟩
          · unfold vSeen; rw [if_pos (by omega)]; first | (rw [if_pos (by omega)]; done) | (rw [if_neg (by omega)]; omega)
          · unfold sSeen; rw [if_pos (by omega)]; first | (rw [if_pos (by omega)]; exact ⟨H0, mo_r M⟩) | (rw [if_neg (by omega)]; exact RC_seen H2 H0)
        · replace b4 := of_decide_eq_true b4
          refine rr_bipush (z := (-4)) (pc := 39) B dX8_seen_39 (by decide) ?_
          refine rr_goto 54 (pc := 41) B dX8_seen_41 (by decide) ?_
          refine rr_ireturn (pc := 54) B Br dX8_seen_54 ⟨congrArg (fun z => some (aI z)) ?_, ?_⟩
          · unfold vSeen; rw [if_pos (by omega)]; first | (rw [if_pos (by omega)]; done) | (rw [if_neg (by omega)]; omega)
          · unfold sSeen; rw [if_pos (by omega)]; first | (rw [if_pos (by omega)]; exact ⟨H0, mo_r M⟩) | (rw [if_neg (by omega)]; exact RC_seen H2 H0)
      · replace b3 := of_decide_eq_false b3
        refine rr_bipush (z := (-2)) (pc := 26) B dX8_seen_26 (by decide) ?_
        refine rr_ireturn (pc := 28) B Br dX8_seen_28 ⟨congrArg (fun z => some (aI z)) ?_, ?_⟩
        · unfold vSeen; rw [if_neg (by omega)]
        · unfold sSeen; rw [if_neg (by omega)]; exact ⟨H0, mo_r M⟩
set_option maxHeartbeats 4000000 in
set_option maxRecDepth 100000 in
theorem ct_X8_hats (g : ax_G) (M : ax_M) (w : Int) (S : ax_M) (H0 : RC S M) (H1 : SI S) (H2 : SR S) (H3 : -2147483648 ≤ w ∧ w ≤ 2147483647) : CT g md_X8_hats 4 [aR 8, aI w] M (pIR (vHats S w) (fun M2 => RC (S) M2 ∧ mo M M2)) := by
  refine ct_intro 1 rfl rfl ?_
  intro X hg B Br
  subst hg
  show AW X 0 [some (aR 8), some (aI w), none] [] M
  refine rr_rg (fun G0 => ?_)
  have E3 : M 3 0 = S 9 30 := H0.2.2.1.1
  have G3 := G0.at ob_3_0.2.1
  have E7 : M 7 0 = S 9 26 := H0.2.2.2.1.1
  have G7 := G0.at ob_7_0.2.1
  have HE := hat_eq H2 H0
  have SH := shB_r M G7
  have G75 := G0.at ob_7_5.2.1
  have HV : (if M 7 6 = 0 then M 7 5 else (shB M (p2 (M 7 0) - 1)).1) = htB S := by
    split
    · next q => exact H0.2.2.2.1.2.2 q
    · exact HE
  have HR : RC S (if M 7 6 = 0 then M else ms (ms M 7 5 (shB M (p2 (M 7 0) - 1)).1) 7 6 0) ∧ mo M (if M 7 6 = 0 then M else ms (ms M 7 5 (shB M (p2 (M 7 0) - 1)).1) 7 6 0) := by
    split
    · exact ⟨H0, mo_r M⟩
    · exact ⟨RC_hat H0 HE, mo_m (mo_m (mo_r M) (by decide)) (by decide)⟩
  have H10 : 0 ≤ htB S ∧ htB S ≤ 1023 := by rw [← HE]; exact SH
  refine rr_iload1 (pc := 0) B dX8_hats_0 ?_
  refine rr_iconst (z := 1) (pc := 1) B dX8_hats_1 ?_
  refine rc_SI2 (pc := 2) B dX8_hats_2 st_X8_within lk_8_74 (ct_X8_within _ _ _ _  (by omega)) (Nat.le_of_ble_eq_true rfl) (Nat.le_of_ble_eq_true rfl) ?_
  refine rr_if_neB 11 (pc := 5) B dX8_hats_5 (by decide) (fun b1 => ?_) (fun b1 => ?_)
  · replace b1 := of_decide_eq_true b1
    refine rr_aload0 (pc := 11) B dX8_hats_11 ?_
    refine rr_getR (pc := 12) B dX8_hats_12 fl_8_45 or_8_5 ?_
    refine rc_VI0 (pc := 15) B dX8_hats_15 vm_X7_fewestFalse lk_8_248 so_7 rfl (ct_X7_fewestFalse _ _   ) (Nat.le_of_ble_eq_true rfl) (Nat.le_of_ble_eq_true rfl) ?_
    rw [HV]
    refine rr_istore2 (pc := 18) B dX8_hats_18 rfl ?_
    refine rr_iload1 (pc := 19) B dX8_hats_19 ?_
    refine rr_if_ne 30 (pc := 20) B dX8_hats_20 (by decide) (by omega) (fun b2 => ?_) (fun b2 => ?_)
    · refine rr_iload2 (pc := 30) B dX8_hats_30 ?_
      refine rr_ireturn (pc := 31) B Br dX8_hats_31 ⟨congrArg (fun z => some (aI z)) ?_, ?_⟩
      · unfold vHats; rw [if_pos (by omega)]; first | (rw [if_pos (by omega)]; done) | (rw [if_neg (by omega)]; done)
      · exact HR
    · refine rr_iload2 (pc := 23) B dX8_hats_23 ?_
      refine rc_SI1 (pc := 24) B dX8_hats_24 st_J_bitCount lk_8_251 (ct_J_bitCount _ _ _  (by omega)) (Nat.le_of_ble_eq_true rfl) (Nat.le_of_ble_eq_true rfl) ?_
      refine rr_goto 31 (pc := 27) B dX8_hats_27 (by decide) ?_
      refine rr_ireturn (pc := 31) B Br dX8_hats_31 ⟨congrArg (fun z => some (aI z)) ?_, ?_⟩
      · unfold vHats; rw [if_pos (by omega)]; first | (rw [if_pos (by omega)]; done) | (rw [if_neg (by omega)]; done)
      · exact HR
  · replace b1 := of_decide_eq_false b1
    refine rr_bipush (z := (-2)) (pc := 8) B dX8_hats_8 (by decide) ?_
    refine rr_ireturn (pc := 10) B Br dX8_hats_10 ⟨congrArg (fun z => some (aI z)) ?_, ?_⟩
    · unfold vHats; rw [if_neg (by omega)]
    · exact ⟨H0, mo_r M⟩
