theorem on8 {b : Int} (h : 0 ≤ b ∧ b ≤ 255) : on b ≤ 8 := by
  have key : ∀ m : Fin 256, on ((m.val : Nat) : Int) ≤ 8 := by decide +kernel
  have := key ⟨b.toNat, by omega⟩
  rw [show (((⟨b.toNat, by omega⟩ : Fin 256).val : Nat) : Int) = b by show ((b.toNat : Nat) : Int) = b; omega] at this
  exact this
set_option maxHeartbeats 4000000 in
set_option maxRecDepth 100000 in
theorem ct_X2_applyRule (g : ax_G) (M : ax_M) (d : Int) (V : ax_M) (H0 : AgC V M) (H1 : 0 ≤ d ∧ d < V 9 2) : CT g md_X2_applyRule 1 [aR 2, aI d] M (pV (ms (ms (ms M 18 d (need V d)) 19 d (bi (decide (V 53 (V 47 d) = 1)))) 20 d (bi (decide (V 54 (V 47 d) = 1))))) := by
  refine ct_intro 1 rfl rfl ?_
  intro X hg B Br
  subst hg
  show AW X 0 [some (aR 2), some (aI d), none] [] M
  refine rr_rg (fun G0 => ?_)
  have HC := H0
  have N8 : 0 ≤ V 9 2 ∧ V 9 2 ≤ 8 := by have := G0.at ob_0_6.2.1; rw [HC.1] at this; exact this
  refine rr_aload0 (pc := 0) B dX2_applyRule_0 ?_
  refine rr_getR (pc := 1) B dX2_applyRule_1 fl_2_12 or_2_0 ?_
  refine rr_getR (pc := 4) B dX2_applyRule_4 fl_2_67 or_0_0 ?_
  refine rr_iload1 (pc := 7) B dX2_applyRule_7 ?_
  refine rr_ialoadE (pc := 8) B dX2_applyRule_8 sa_10 (by omega) ((HC.2.1 _ (by omega) (by omega)).1) (fun b1 => ?_)
  refine rr_istore2 (pc := 9) B dX2_applyRule_9 rfl ?_
  have V52 : 0 ≤ V 52 (V 47 d) ∧ V 52 (V 47 d) ≤ 4 := by rw [← (HC.2.2.2.2.2 (V 47 d) (by omega) (by omega)).1]; have := G0.at (sa_30.2.2 (V 47 d)); split <;> omega
  refine rr_aload0 (pc := 10) B dX2_applyRule_10 ?_
  refine rr_getR (pc := 11) B dX2_applyRule_11 fl_2_32 or_2_3 ?_
  refine rr_iload1 (pc := 14) B dX2_applyRule_14 ?_
  refine rr_aload0 (pc := 15) B dX2_applyRule_15 ?_
  refine rr_getR (pc := 16) B dX2_applyRule_16 fl_2_21 or_2_1 ?_
  refine rr_iload2 (pc := 19) B dX2_applyRule_19 ?_
  refine rc_VI1 (pc := 20) B dX2_applyRule_20 vm_X5_needOf lk_2_70 so_5 rfl (ct_X5_needOf _ _ _  (by omega)) (Nat.le_of_ble_eq_true rfl) (Nat.le_of_ble_eq_true rfl) ?_
  refine rr_aload0 (pc := 23) B dX2_applyRule_23 ?_
  refine rr_getR (pc := 24) B dX2_applyRule_24 fl_2_12 or_2_0 ?_
  refine rr_getR (pc := 27) B dX2_applyRule_27 fl_2_74 or_0_4 ?_
  refine rr_iload1 (pc := 30) B dX2_applyRule_30 ?_
  refine rr_ialoadE (pc := 31) B dX2_applyRule_31 sa_14 (by omega) ((HC.2.1 _ (by omega) (by omega)).2.2.2.2) (fun b2 => ?_)
  refine rc_SI1 (pc := 32) B dX2_applyRule_32 st_J_bitCount lk_2_77 (ct_J_bitCount _ _ _  (by omega)) (Nat.le_of_ble_eq_true rfl) (Nat.le_of_ble_eq_true rfl) ?_
  refine rr_min (pc := 35) B dX2_applyRule_35 (by decide) lk_2_82 (by have := on_r (V 51 d); have f := HC.2.2.2.2.2 (V 47 d) (by omega) (by omega); rw [f.1]; have r := V52; omega) (Nat.le_of_ble_eq_true rfl) ?_
  refine rr_iastore (pc := 38) B dX2_applyRule_38 sa_18 (by omega) (by have := on_r (V 51 d); have o8 := on8 (b := V 51 d) (by omega); have f := HC.2.2.2.2.2 (V 47 d) (by omega) (by omega); rw [f.1]; have r := V52; split <;> omega) ?_
  refine rr_aload0 (pc := 39) B dX2_applyRule_39 ?_
  refine rr_getR (pc := 40) B dX2_applyRule_40 fl_2_36 or_2_4 ?_
  refine rr_iload1 (pc := 43) B dX2_applyRule_43 ?_
  refine rr_aload0 (pc := 44) B dX2_applyRule_44 ?_
  refine rr_getR (pc := 45) B dX2_applyRule_45 fl_2_21 or_2_1 ?_
  refine rr_iload2 (pc := 48) B dX2_applyRule_48 ?_
  refine rc_VI1 (pc := 49) B dX2_applyRule_49 vm_X5_asksWeather lk_2_88 so_5 rfl (ct_X5_asksWeather _ _ _  (by omega)) (Nat.le_of_ble_eq_true rfl) (Nat.le_of_ble_eq_true rfl) ?_
  refine rr_zastore (pc := 52) B dX2_applyRule_52 sa_19 (by omega) (bi_r _) (bi_01 _) ?_
  refine rr_aload0 (pc := 53) B dX2_applyRule_53 ?_
  refine rr_getR (pc := 54) B dX2_applyRule_54 fl_2_40 or_2_5 ?_
  refine rr_iload1 (pc := 57) B dX2_applyRule_57 ?_
  refine rr_aload0 (pc := 58) B dX2_applyRule_58 ?_
  refine rr_getR (pc := 59) B dX2_applyRule_59 fl_2_21 or_2_1 ?_
  refine rr_iload2 (pc := 62) B dX2_applyRule_62 ?_
  refine rc_VI1 (pc := 63) B dX2_applyRule_63 vm_X5_asksPlace lk_2_91 so_5 rfl (ct_X5_asksPlace _ _ _  (by omega)) (Nat.le_of_ble_eq_true rfl) (Nat.le_of_ble_eq_true rfl) ?_
  refine rr_zastore (pc := 66) B dX2_applyRule_66 sa_20 (by omega) (bi_r _) (bi_01 _) ?_
  refine rr_return (pc := 67) B Br dX2_applyRule_67 ⟨rfl, ?_⟩
  · have f := HC.2.2.2.2.2 (V 47 d) (by omega) (by omega)
    show ms (ms (ms M 18 d (if on (V 51 d) < (if M 5 2 = -1 then M 30 (V 47 d) else 0) then on (V 51 d) else (if M 5 2 = -1 then M 30 (V 47 d) else 0))) 19 d (bi (decide (M 5 2 = -1 ∧ M 31 (V 47 d) = 1)))) 20 d (bi (decide (M 5 2 = -1 ∧ M 32 (V 47 d) = 1))) = _
    rw [f.1, decide_eq_decide.mpr f.2.1, decide_eq_decide.mpr f.2.2, show (if on (V 51 d) < V 52 (V 47 d) then on (V 51 d) else V 52 (V 47 d)) = need V d by unfold need; split <;> split <;> omega]
set_option maxHeartbeats 4000000 in
set_option maxRecDepth 100000 in
theorem ct_X2_sortByPrice (g : ax_G) (M : ax_M) (V : ax_M) (H0 : AgC V M) : CT g md_X2_sortByPrice 1 [aR 2] M (pVR (fun M2 => SRn V (M2 23) 8 ∧ frm exS M M2)) := by
  refine ct_intro 2 rfl rfl ?_
  intro X hg B Br
  subst hg
  show AW X 0 [some (aR 2), none, none] [] M
  refine rr_rg (fun G0 => ?_)
  have HC := H0
  have N8 : 0 ≤ V 9 2 ∧ V 9 2 ≤ 8 := by have := G0.at ob_0_6.2.1; rw [HC.1] at this; exact this
  have L : ∀ nn : Nat, (∀ (M1 : ax_M) (p : Int) (w2 : Option ax_V), (0 ≤ p ∧ p ≤ 8) → (frm exS M M1) → (SRn V (M1 23) p) → ((100 * (8 - p) + 99).toNat) < nn → AW X 2 [some (aR 2), some (aI p), w2] [] M1) ∧ (∀ (M1 : ax_M) (p i : Int), (0 ≤ p ∧ p < 8) → (0 ≤ i ∧ i ≤ p) → (frm exS M M1) → (SRh V (M1 23) p i) → ((100 * (8 - p) + i).toNat) < nn → AW X 10 [some (aR 2), some (aI p), some (aI i)] [] M1) ∧ True := by
    intro nn
    induction nn with
    | zero => exact ⟨by intros; omega, by intros; omega, trivial⟩
    | succ nn ih =>
      refine ⟨?_, ?_, trivial⟩
      · intro M1 p w2 K0 K1 K2 hm
        refine rr_rg (fun G1 => ?_)
        refine rr_iload1 (pc := 2) B dX2_sortByPrice_2 ?_
        refine rr_bipush (z := 8) (pc := 3) B dX2_sortByPrice_3 (by decide) ?_
        refine rr_icmp_ge 75 (pc := 5) B dX2_sortByPrice_5 (by decide) (by omega) (fun b1 => ?_) (fun b1 => ?_)
        · refine rr_return (pc := 75) B Br dX2_sortByPrice_75 ⟨rfl, ?_⟩
          · exact ⟨by have z := K2; rw [show p = 8 by omega] at z; exact z, K1⟩
        · refine rr_iload1 (pc := 8) B dX2_sortByPrice_8 ?_
          refine rr_istore2 (pc := 9) B dX2_sortByPrice_9 rfl ?_
          refine ih.2.1 _ _ _ ?_ ?_ ?_ ?_ ?_
          · omega
          · omega
          · exact K1
          · exact SR_in K2
          · omega
      · intro M1 p i K0 K1 K2 K3 hm
        refine rr_rg (fun G1 => ?_)
        have HC := agc_S H0 K2
        have TR : ∀ q, 0 ≤ q → q ≤ 7 → M1 15 (q * 4 + 2) = V 57 q ∧ 0 ≤ V 57 q ∧ V 57 q ≤ 99 := fun q a b => by
          have z := (HC.2.2.1 q a b).2.2.1
          have y := G1.at (sa_15.2.2 (q * 4 + 2))
          exact ⟨z, by omega, by omega⟩
        have TP := TR p (by omega) (by omega)
        refine rr_iload2 (pc := 10) B dX2_sortByPrice_10 ?_
        refine rr_if_le 62 (pc := 11) B dX2_sortByPrice_11 (by decide) (by omega) (fun b1 => ?_) (fun b1 => ?_)
        · refine rr_aload0 (pc := 62) B dX2_sortByPrice_62 ?_
          refine rr_getR (pc := 63) B dX2_sortByPrice_63 fl_2_49 or_2_8 ?_
          refine rr_iload2 (pc := 66) B dX2_sortByPrice_66 ?_
          refine rr_iload1 (pc := 67) B dX2_sortByPrice_67 ?_
          refine rr_iastore (pc := 68) B dX2_sortByPrice_68 sa_23 (by omega) (by omega) ?_
          refine rr_iinc1 (z := 1) (pc := 69) B dX2_sortByPrice_69 rfl ?_
          refine rr_goto 2 (pc := 72) B dX2_sortByPrice_72 (by decide) ?_
          refine ih.1 _ _ _ ?_ ?_ ?_ ?_
          · omega
          · exact frm_ms K2 rfl
          · exact SR_out (by omega) K3 (by omega)
          · omega
        · refine rr_aload0 (pc := 14) B dX2_sortByPrice_14 ?_
          refine rr_getR (pc := 15) B dX2_sortByPrice_15 fl_2_28 or_2_2 ?_
          refine rr_aload0 (pc := 18) B dX2_sortByPrice_18 ?_
          refine rr_getR (pc := 19) B dX2_sortByPrice_19 fl_2_49 or_2_8 ?_
          refine rr_iload2 (pc := 22) B dX2_sortByPrice_22 ?_
          refine rr_iconst (z := 1) (pc := 23) B dX2_sortByPrice_23 ?_
          refine rr_isub (pc := 24) B dX2_sortByPrice_24 ?_
          refine rr_iaload (pc := 25) B dX2_sortByPrice_25 sa_23 (by omega) (fun b2 => ?_)
          refine rr_iconst (z := 2) (pc := 26) B dX2_sortByPrice_26 ?_
          refine rc_VI2 (pc := 27) B dX2_sortByPrice_27 vm_X1_trait lk_2_93 so_1 rfl (ct_X1_trait _ _ _ _  (by omega) (by omega)) (Nat.le_of_ble_eq_true rfl) (Nat.le_of_ble_eq_true rfl) ?_
          refine rr_aload0 (pc := 30) B dX2_sortByPrice_30 ?_
          refine rr_getR (pc := 31) B dX2_sortByPrice_31 fl_2_28 or_2_2 ?_
          refine rr_iload1 (pc := 34) B dX2_sortByPrice_34 ?_
          refine rr_iconst (z := 2) (pc := 35) B dX2_sortByPrice_35 ?_
          refine rc_VI2 (pc := 36) B dX2_sortByPrice_36 vm_X1_trait lk_2_93 so_1 rfl (ct_X1_trait _ _ _ _  (by omega) (by omega)) (Nat.le_of_ble_eq_true rfl) (Nat.le_of_ble_eq_true rfl) ?_
          have TQ := TR (M1 23 (i - 1)) (by omega) (by omega)
          refine rr_icmp_le 62 (pc := 39) B dX2_sortByPrice_39 (by decide) (by omega) (fun b3 => ?_) (fun b3 => ?_)
          · refine rr_aload0 (pc := 62) B dX2_sortByPrice_62 ?_
            refine rr_getR (pc := 63) B dX2_sortByPrice_63 fl_2_49 or_2_8 ?_
            refine rr_iload2 (pc := 66) B dX2_sortByPrice_66 ?_
            refine rr_iload1 (pc := 67) B dX2_sortByPrice_67 ?_
            refine rr_iastore (pc := 68) B dX2_sortByPrice_68 sa_23 (by omega) (by omega) ?_
            refine rr_iinc1 (z := 1) (pc := 69) B dX2_sortByPrice_69 rfl ?_
            refine rr_goto 2 (pc := 72) B dX2_sortByPrice_72 (by decide) ?_
            refine ih.1 _ _ _ ?_ ?_ ?_ ?_
            · omega
            · exact frm_ms K2 rfl
            · exact SR_out (by omega) K3 (by omega)
            · omega
          · refine rr_aload0 (pc := 42) B dX2_sortByPrice_42 ?_
            refine rr_getR (pc := 43) B dX2_sortByPrice_43 fl_2_49 or_2_8 ?_
            refine rr_iload2 (pc := 46) B dX2_sortByPrice_46 ?_
            refine rr_aload0 (pc := 47) B dX2_sortByPrice_47 ?_
            refine rr_getR (pc := 48) B dX2_sortByPrice_48 fl_2_49 or_2_8 ?_
            refine rr_iload2 (pc := 51) B dX2_sortByPrice_51 ?_
            refine rr_iconst (z := 1) (pc := 52) B dX2_sortByPrice_52 ?_
            refine rr_isub (pc := 53) B dX2_sortByPrice_53 ?_
            refine rr_iaload (pc := 54) B dX2_sortByPrice_54 sa_23 (by omega) (fun b4 => ?_)
            refine rr_iastore (pc := 55) B dX2_sortByPrice_55 sa_23 (by omega) (by omega) ?_
            refine rr_iinc2 (z := (-1)) (pc := 56) B dX2_sortByPrice_56 rfl ?_
            refine rr_goto 10 (pc := 59) B dX2_sortByPrice_59 (by decide) ?_
            refine ih.2.1 _ _ _ ?_ ?_ ?_ ?_ ?_
            · omega
            · omega
            · exact frm_ms K2 rfl
            · exact SR_mv (by omega) K3 (by omega)
            · omega
  refine rr_iconst (z := 0) (pc := 0) B dX2_sortByPrice_0 ?_
  refine rr_istore1 (pc := 1) B dX2_sortByPrice_1 rfl ?_
  refine (L _).1 _ _ _ ?_ ?_ ?_ (Nat.lt_succ_self _)
  · omega
  · exact frm_rfl
  · exact ⟨fun j a b => by omega, fun j k a b c => by omega, fun q a b => by omega⟩
set_option maxHeartbeats 4000000 in
set_option maxRecDepth 100000 in
theorem ct_X2_isTurned (g : ax_G) (M : ax_M) (d h : Int) (V : ax_M) (H0 : AgC V M) (H1 : 0 ≤ d ∧ d < V 9 2) (H2 : 0 ≤ h ∧ h ≤ 7) (H3 : M 19 d = bi (decide (V 53 (V 47 d) = 1))) : CT g md_X2_isTurned 0 [aR 2, aI d, aI h] M (pI (bi (trn V d h)) (M)) := by
  refine ct_intro 0 rfl rfl ?_
  intro X hg B Br
  subst hg
  show AW X 0 [some (aR 2), some (aI d), some (aI h)] [] M
  refine rr_rg (fun G0 => ?_)
  have HC := H0
  have N8 : 0 ≤ V 9 2 ∧ V 9 2 ≤ 8 := by have := G0.at ob_0_6.2.1; rw [HC.1] at this; exact this
  refine rr_aload0 (pc := 0) B dX2_isTurned_0 ?_
  refine rr_getR (pc := 1) B dX2_isTurned_1 fl_2_36 or_2_4 ?_
  refine rr_iload1 (pc := 4) B dX2_isTurned_4 ?_
  refine rr_zaloadE (pc := 5) B dX2_isTurned_5 sa_19 (by omega) (H3) (fun b1 => ?_)
  refine rr_if_eqB 34 (pc := 6) B dX2_isTurned_6 (by decide) (fun b2 => ?_) (fun b2 => ?_)
  · replace b2 := of_decide_eq_false b2
    refine rr_iconst (z := 0) (pc := 34) B dX2_isTurned_34 ?_
    refine rr_zreturn (pc := 35) B Br dX2_isTurned_35 (by omega) ⟨congrArg (fun z => some (aI z)) ?_, ?_⟩
    · unfold trn; first | (rw [decide_eq_true (by omega)]; rfl) | (rw [decide_eq_false (by omega)]; rfl)
    · first | rfl | assumption
  · replace b2 := of_decide_eq_true b2
    refine rr_aload0 (pc := 9) B dX2_isTurned_9 ?_
    refine rr_getR (pc := 10) B dX2_isTurned_10 fl_2_12 or_2_0 ?_
    refine rr_getR (pc := 13) B dX2_isTurned_13 fl_2_121 or_0_2 ?_
    refine rr_iload1 (pc := 16) B dX2_isTurned_16 ?_
    refine rr_ialoadE (pc := 17) B dX2_isTurned_17 sa_12 (by omega) ((HC.2.1 _ (by omega) (by omega)).2.2.1) (fun b3 => ?_)
    refine rr_aload0 (pc := 18) B dX2_isTurned_18 ?_
    refine rr_getR (pc := 19) B dX2_isTurned_19 fl_2_28 or_2_2 ?_
    refine rr_getR (pc := 22) B dX2_isTurned_22 fl_2_124 or_1_1 ?_
    refine rr_iload2 (pc := 25) B dX2_isTurned_25 ?_
    refine rr_ialoadE (pc := 26) B dX2_isTurned_26 sa_16 (by omega) (HC.2.2.2.1 _ (by omega) (by omega)) (fun b4 => ?_)
    refine rr_icmp_eq 34 (pc := 27) B dX2_isTurned_27 (by decide) (by omega) (fun b5 => ?_) (fun b5 => ?_)
    · refine rr_iconst (z := 0) (pc := 34) B dX2_isTurned_34 ?_
      refine rr_zreturn (pc := 35) B Br dX2_isTurned_35 (by omega) ⟨congrArg (fun z => some (aI z)) ?_, ?_⟩
      · unfold trn; first | (rw [decide_eq_true (by omega)]; rfl) | (rw [decide_eq_false (by omega)]; rfl)
      · first | rfl | assumption
    · refine rr_iconst (z := 1) (pc := 30) B dX2_isTurned_30 ?_
      refine rr_goto 35 (pc := 31) B dX2_isTurned_31 (by decide) ?_
      refine rr_zreturn (pc := 35) B Br dX2_isTurned_35 (by omega) ⟨congrArg (fun z => some (aI z)) ?_, ?_⟩
      · unfold trn; first | (rw [decide_eq_true (by omega)]; rfl) | (rw [decide_eq_false (by omega)]; rfl)
      · first | rfl | assumption
set_option maxHeartbeats 4000000 in
set_option maxRecDepth 100000 in
theorem ct_X2_reckonOne (g : ax_G) (M : ax_M) (d h : Int) (V : ax_M) (H0 : AgC V M) (H1 : 0 ≤ d ∧ d < V 9 2) (H2 : 0 ≤ h ∧ h ≤ 7) (H3 : SRn V (M 23) 8) (H4 : M 18 d = need V d) (H5 : M 19 d = bi (decide (V 53 (V 47 d) = 1))) (H6 : 0 ≤ V 60 1 ∧ V 60 1 ≤ 1) : CT g md_X2_reckonOne 1 [aR 2, aI d, aI h] M (pVR (fun M2 => ROh V M2 d h ∧ frm (fun k i => decide ((k = 21 ∨ k = 22) ∧ i = d * 8 + h)) M M2)) := by
  refine ct_intro 6 rfl rfl ?_
  intro X hg B Br
  subst hg
  show AW X 0 [some (aR 2), some (aI d), some (aI h), none, none, none, none, none, none] [] M
  refine rr_rg (fun G0 => ?_)
  have HC := H0
  have N8 : 0 ≤ V 9 2 ∧ V 9 2 ≤ 8 := by have := G0.at ob_0_6.2.1; rw [HC.1] at this; exact this
  have V51 := G0.at (sa_14.2.2 d)
  rw [(HC.2.1 d H1.1 H1.2).2.2.2.2] at V51
  have P57 : ∀ p, 0 ≤ p → p < 8 → 0 ≤ V 57 p ∧ V 57 p ≤ 99 := fun p a b => by have := G0.at (sa_15.2.2 (p * 4 + 2)); rw [(HC.2.2.1 p a (by omega)).2.2.1] at this; exact this
  have L : ∀ nn : Nat, (∀ (l c sm i : Int) (w8 : Option ax_V), (0 ≤ i ∧ i ≤ 8) → (0 ≤ l ∧ l ≤ 8) → (0 ≤ c ∧ c < 256) → (cIt V d h l.toNat c = cIt V d h (need V d).toNat 0) → (sm = prc V c) → (∀ p, 0 ≤ p → p < 8 → tb c p = true → ∃ j, 0 ≤ j ∧ j < i ∧ M 23 j = p) → (∀ j, 0 ≤ j → j < i → avl V d h (M 23 j) = true → tb c (M 23 j) = true) → ((9 - i).toNat) < nn → AW X 27 [some (aR 2), some (aI d), some (aI h), some (aI (V 51 d)), some (aI l), some (aI c), some (aI sm), some (aI i), w8] [] M) ∧ (∀ (l c sm z : Int) (w7 w8 : Option ax_V), (0 ≤ l ∧ l ≤ 8) → (l = 0 → cIt V d h (need V d).toNat 0 = c ∧ 0 ≤ c ∧ c < 256) → (l ≠ 0 → cIt V d h (need V d).toNat 0 = -3) → (sm = prc V c) → (z = if trn V d h = true ∧ V 60 1 = 0 then 0 else 1) → (0) < nn → AW X 130 [some (aR 2), some (aI d), some (aI h), some (aI (V 51 d)), some (aI l), some (aI c), some (aI sm), w7, w8] [aI z] M) ∧ True := by
    intro nn
    induction nn with
    | zero => exact ⟨by intros; omega, by intros; omega, trivial⟩
    | succ nn ih =>
      refine ⟨?_, ?_, trivial⟩
      · intro l c sm i w8 K0 K1 K2 K3 K4 K5 K6 hm
        refine rr_iload7 (pc := 27) B dX2_reckonOne_27 ?_
        refine rr_bipush (z := 8) (pc := 29) B dX2_reckonOne_29 (by decide) ?_
        refine rr_icmp_ge 103 (pc := 31) B dX2_reckonOne_31 (by decide) (by omega) (fun b1 => ?_) (fun b1 => ?_)
        · refine rr_aload0 (pc := 103) B dX2_reckonOne_103 ?_
          refine rr_iload1 (pc := 104) B dX2_reckonOne_104 ?_
          refine rr_iload2 (pc := 105) B dX2_reckonOne_105 ?_
          refine rc_VI2 (pc := 106) B dX2_reckonOne_106 vm_X2_isTurned lk_2_103 so_2 rfl (ct_X2_isTurned _ _ _ _ _ (by omega) (by omega) (by omega) (by exact H5)) (Nat.le_of_ble_eq_true rfl) (Nat.le_of_ble_eq_true rfl) ?_
          refine rr_if_eqB 125 (pc := 109) B dX2_reckonOne_109 (by decide) (fun b2 => ?_) (fun b2 => ?_)
          · refine rr_iconst (z := 1) (pc := 125) B dX2_reckonOne_125 ?_
            refine rr_goto 130 (pc := 126) B dX2_reckonOne_126 (by decide) ?_
            refine ih.2.1 _ _ _ _ _ _ ?_ ?_ ?_ ?_ ?_ ?_
            · omega
            · intro q; rw [← K3, q]; exact ⟨rfl, K2⟩
            · intro q
              have i8 : i = 8 := by omega
              rw [← K3, show l.toNat = (l - 1).toNat + 1 by omega, cIt, if_pos]
              refine pk_no (fun q a b e => ?_)
              obtain ⟨j, x, y, z⟩ := H3.2.2 q a b
              rw [← z] at e ⊢
              exact K6 j x (by omega) e
            · exact K4
            · first | (rw [if_pos ⟨by assumption, by omega⟩]; done) | (rw [if_neg (by rintro ⟨q1, q2⟩; first | omega | (simp_all; done))]; done)
            · omega
          · refine rr_aload0 (pc := 112) B dX2_reckonOne_112 ?_
            refine rr_getR (pc := 113) B dX2_reckonOne_113 fl_2_28 or_2_2 ?_
            refine rr_getR (pc := 116) B dX2_reckonOne_116 fl_2_106 or_1_2 ?_
            refine rr_iconst (z := 1) (pc := 119) B dX2_reckonOne_119 ?_
            refine rr_ialoadE (pc := 120) B dX2_reckonOne_120 sa_17 (by omega) (HC.2.2.2.2.1 _ (by omega) (by omega)) (fun b3 => ?_)
            refine rr_iconst (z := 1) (pc := 121) B dX2_reckonOne_121 ?_
            refine rr_icmp_ne 129 (pc := 122) B dX2_reckonOne_122 (by decide) (by omega) (fun b4 => ?_) (fun b4 => ?_)
            · refine rr_iconst (z := 0) (pc := 129) B dX2_reckonOne_129 ?_
              refine ih.2.1 _ _ _ _ _ _ ?_ ?_ ?_ ?_ ?_ ?_
              · omega
              · intro q; rw [← K3, q]; exact ⟨rfl, K2⟩
              · intro q
                have i8 : i = 8 := by omega
                rw [← K3, show l.toNat = (l - 1).toNat + 1 by omega, cIt, if_pos]
                refine pk_no (fun q a b e => ?_)
                obtain ⟨j, x, y, z⟩ := H3.2.2 q a b
                rw [← z] at e ⊢
                exact K6 j x (by omega) e
              · exact K4
              · first | (rw [if_pos ⟨by assumption, by omega⟩]; done) | (rw [if_neg (by rintro ⟨q1, q2⟩; first | omega | (simp_all; done))]; done)
              · omega
            · refine rr_iconst (z := 1) (pc := 125) B dX2_reckonOne_125 ?_
              refine rr_goto 130 (pc := 126) B dX2_reckonOne_126 (by decide) ?_
              refine ih.2.1 _ _ _ _ _ _ ?_ ?_ ?_ ?_ ?_ ?_
              · omega
              · intro q; rw [← K3, q]; exact ⟨rfl, K2⟩
              · intro q
                have i8 : i = 8 := by omega
                rw [← K3, show l.toNat = (l - 1).toNat + 1 by omega, cIt, if_pos]
                refine pk_no (fun q a b e => ?_)
                obtain ⟨j, x, y, z⟩ := H3.2.2 q a b
                rw [← z] at e ⊢
                exact K6 j x (by omega) e
              · exact K4
              · first | (rw [if_pos ⟨by assumption, by omega⟩]; done) | (rw [if_neg (by rintro ⟨q1, q2⟩; first | omega | (simp_all; done))]; done)
              · omega
        · refine rr_iload4 (pc := 34) B dX2_reckonOne_34 ?_
          refine rr_if_le 103 (pc := 36) B dX2_reckonOne_36 (by decide) (by omega) (fun b2 => ?_) (fun b2 => ?_)
          · refine rr_aload0 (pc := 103) B dX2_reckonOne_103 ?_
            refine rr_iload1 (pc := 104) B dX2_reckonOne_104 ?_
            refine rr_iload2 (pc := 105) B dX2_reckonOne_105 ?_
            refine rc_VI2 (pc := 106) B dX2_reckonOne_106 vm_X2_isTurned lk_2_103 so_2 rfl (ct_X2_isTurned _ _ _ _ _ (by omega) (by omega) (by omega) (by exact H5)) (Nat.le_of_ble_eq_true rfl) (Nat.le_of_ble_eq_true rfl) ?_
            refine rr_if_eqB 125 (pc := 109) B dX2_reckonOne_109 (by decide) (fun b3 => ?_) (fun b3 => ?_)
            · refine rr_iconst (z := 1) (pc := 125) B dX2_reckonOne_125 ?_
              refine rr_goto 130 (pc := 126) B dX2_reckonOne_126 (by decide) ?_
              refine ih.2.1 _ _ _ _ _ _ ?_ ?_ ?_ ?_ ?_ ?_
              · omega
              · intro q; rw [← K3, q]; exact ⟨rfl, K2⟩
              · intro q
                have i8 : i = 8 := by omega
                rw [← K3, show l.toNat = (l - 1).toNat + 1 by omega, cIt, if_pos]
                refine pk_no (fun q a b e => ?_)
                obtain ⟨j, x, y, z⟩ := H3.2.2 q a b
                rw [← z] at e ⊢
                exact K6 j x (by omega) e
              · exact K4
              · first | (rw [if_pos ⟨by assumption, by omega⟩]; done) | (rw [if_neg (by rintro ⟨q1, q2⟩; first | omega | (simp_all; done))]; done)
              · omega
            · refine rr_aload0 (pc := 112) B dX2_reckonOne_112 ?_
              refine rr_getR (pc := 113) B dX2_reckonOne_113 fl_2_28 or_2_2 ?_
              refine rr_getR (pc := 116) B dX2_reckonOne_116 fl_2_106 or_1_2 ?_
              refine rr_iconst (z := 1) (pc := 119) B dX2_reckonOne_119 ?_
              refine rr_ialoadE (pc := 120) B dX2_reckonOne_120 sa_17 (by omega) (HC.2.2.2.2.1 _ (by omega) (by omega)) (fun b4 => ?_)
              refine rr_iconst (z := 1) (pc := 121) B dX2_reckonOne_121 ?_
              refine rr_icmp_ne 129 (pc := 122) B dX2_reckonOne_122 (by decide) (by omega) (fun b5 => ?_) (fun b5 => ?_)
              · refine rr_iconst (z := 0) (pc := 129) B dX2_reckonOne_129 ?_
                refine ih.2.1 _ _ _ _ _ _ ?_ ?_ ?_ ?_ ?_ ?_
                · omega
                · intro q; rw [← K3, q]; exact ⟨rfl, K2⟩
                · intro q
                  have i8 : i = 8 := by omega
                  rw [← K3, show l.toNat = (l - 1).toNat + 1 by omega, cIt, if_pos]
                  refine pk_no (fun q a b e => ?_)
                  obtain ⟨j, x, y, z⟩ := H3.2.2 q a b
                  rw [← z] at e ⊢
                  exact K6 j x (by omega) e
                · exact K4
                · first | (rw [if_pos ⟨by assumption, by omega⟩]; done) | (rw [if_neg (by rintro ⟨q1, q2⟩; first | omega | (simp_all; done))]; done)
                · omega
              · refine rr_iconst (z := 1) (pc := 125) B dX2_reckonOne_125 ?_
                refine rr_goto 130 (pc := 126) B dX2_reckonOne_126 (by decide) ?_
                refine ih.2.1 _ _ _ _ _ _ ?_ ?_ ?_ ?_ ?_ ?_
                · omega
                · intro q; rw [← K3, q]; exact ⟨rfl, K2⟩
                · intro q
                  have i8 : i = 8 := by omega
                  rw [← K3, show l.toNat = (l - 1).toNat + 1 by omega, cIt, if_pos]
                  refine pk_no (fun q a b e => ?_)
                  obtain ⟨j, x, y, z⟩ := H3.2.2 q a b
                  rw [← z] at e ⊢
                  exact K6 j x (by omega) e
                · exact K4
                · first | (rw [if_pos ⟨by assumption, by omega⟩]; done) | (rw [if_neg (by rintro ⟨q1, q2⟩; first | omega | (simp_all; done))]; done)
                · omega
          · refine rr_aload0 (pc := 39) B dX2_reckonOne_39 ?_
            refine rr_getR (pc := 40) B dX2_reckonOne_40 fl_2_49 or_2_8 ?_
            refine rr_iload7 (pc := 43) B dX2_reckonOne_43 ?_
            refine rr_iaload (pc := 45) B dX2_reckonOne_45 sa_23 (by omega) (fun b3 => ?_)
            refine rr_istore8 (pc := 46) B dX2_reckonOne_46 rfl ?_
            have RI := H3.1 i (by omega) (by omega)
            have NTB : tb c (M 23 i) = false := by
              cases e : tb c (M 23 i) with
              | false => rfl
              | true =>
                exfalso
                obtain ⟨j, x, y, z⟩ := K5 _ RI.1 RI.2 e
                have w := H3.2.1 j i x y (by omega)
                rw [z] at w
                unfold prL at w
                omega
            have PKI : tb (V 51 d) (M 23 i) = true → (M 15 (M 23 i * 4 + 0) ≤ h ∧ h < M 15 (M 23 i * 4 + 1)) → pk V d h c = M 23 i := fun u1 u2 => by
              refine pk_is RI ?_ NTB (fun q a b e f => ?_)
              · unfold avl
                rw [u1, (HC.2.2.1 (M 23 i) (by omega) (by omega)).1.symm, (HC.2.2.1 (M 23 i) (by omega) (by omega)).2.1.symm, decide_eq_true u2]
                rfl
              · obtain ⟨j, x, y, z⟩ := H3.2.2 q a b
                rcases Int.lt_or_le j i with w | w
                · rw [← z] at e f
                  rw [K6 j x w e] at f
                  cases f
                · rcases Int.lt_or_eq_of_le w with w | w
                  · right; rw [← z]; exact H3.2.1 i j (by omega) w y
                  · left; rw [← z, w]
            refine rr_iload3 (pc := 48) B dX2_reckonOne_48 ?_
            refine rr_iload8 (pc := 49) B dX2_reckonOne_49 ?_
            refine rc_NI2 (pc := 51) B dX2_reckonOne_51 st_X8_hasBit lk_2_96 (ct_X8_hasBit _ _ _ _  (by omega) (by omega)) (Nat.le_of_ble_eq_true rfl) (Nat.le_of_ble_eq_true rfl) ?_
            refine rr_if_eqB 97 (pc := 54) B dX2_reckonOne_54 (by decide) (fun b4 => ?_) (fun b4 => ?_)
            · refine rr_iinc7 (z := 1) (pc := 97) B dX2_reckonOne_97 rfl ?_
              refine rr_goto 27 (pc := 100) B dX2_reckonOne_100 (by decide) ?_
              refine ih.1 _ _ _ _ _ ?_ ?_ ?_ ?_ ?_ ?_ ?_ ?_
              · omega
              · omega
              · first | exact K2 | (simp only [show ((2 ^ 8 : Nat) : Int) = 256 from rfl] at *; omega)
              · first | exact K3 | (rw [← K3, show l.toNat = (l + -1).toNat + 1 by omega, cIt, if_neg (by rw [PKI (by assumption) (by assumption)]; omega), PKI (by assumption) (by assumption)])
              · first | exact K4 | (rw [prc_add (by omega) NTB, ← K4, (HC.2.2.1 _ (by omega) (by omega)).2.2.1])
              · intro p a b e
                first
                  | (rw [tb_nO, Bool.or_eq_true] at e
                     rcases e with e | e
                     · obtain ⟨j, x, y, z⟩ := K5 p a b e; exact ⟨j, x, by omega, z⟩
                     · rw [tb_p2 (k := M 23 i) (by omega) a, decide_eq_true_eq] at e; exact ⟨i, by omega, by omega, e.symm⟩)
                  | (obtain ⟨j, x, y, z⟩ := K5 p a b e; exact ⟨j, x, by omega, z⟩)
              · intro j a b e
                rcases Int.lt_or_eq_of_le (show j ≤ i by omega) with q | q
                · have z := K6 j a q e
                  first | exact z | (rw [tb_nO, z]; rfl)
                · rw [q] at e ⊢
                  first
                    | (rw [tb_nO, tb_p2 (k := M 23 i) (j := M 23 i) (by omega) (by omega), decide_eq_true rfl, Bool.or_true]; done)
                    | (exfalso; unfold avl at e; rw [Bool.and_eq_true, decide_eq_true_eq, ← (HC.2.2.1 (M 23 i) (by omega) (by omega)).1, ← (HC.2.2.1 (M 23 i) (by omega) (by omega)).2.1] at e; first | omega | (have z := e.1; simp_all; done) | exact absurd e.2 (by assumption))
              · omega
            · refine rr_aload0 (pc := 57) B dX2_reckonOne_57 ?_
              refine rr_getR (pc := 58) B dX2_reckonOne_58 fl_2_28 or_2_2 ?_
              refine rr_iload8 (pc := 61) B dX2_reckonOne_61 ?_
              refine rr_iload2 (pc := 63) B dX2_reckonOne_63 ?_
              refine rc_VI2 (pc := 64) B dX2_reckonOne_64 vm_X1_isHere lk_2_100 so_1 rfl (ct_X1_isHere _ _ _ _  (by omega) (by omega)) (Nat.le_of_ble_eq_true rfl) (Nat.le_of_ble_eq_true rfl) ?_
              refine rr_if_eqB 97 (pc := 67) B dX2_reckonOne_67 (by decide) (fun b5 => ?_) (fun b5 => ?_)
              · replace b5 := of_decide_eq_false b5
                refine rr_iinc7 (z := 1) (pc := 97) B dX2_reckonOne_97 rfl ?_
                refine rr_goto 27 (pc := 100) B dX2_reckonOne_100 (by decide) ?_
                refine ih.1 _ _ _ _ _ ?_ ?_ ?_ ?_ ?_ ?_ ?_ ?_
                · omega
                · omega
                · first | exact K2 | (simp only [show ((2 ^ 8 : Nat) : Int) = 256 from rfl] at *; omega)
                · first | exact K3 | (rw [← K3, show l.toNat = (l + -1).toNat + 1 by omega, cIt, if_neg (by rw [PKI (by assumption) (by assumption)]; omega), PKI (by assumption) (by assumption)])
                · first | exact K4 | (rw [prc_add (by omega) NTB, ← K4, (HC.2.2.1 _ (by omega) (by omega)).2.2.1])
                · intro p a b e
                  first
                    | (rw [tb_nO, Bool.or_eq_true] at e
                       rcases e with e | e
                       · obtain ⟨j, x, y, z⟩ := K5 p a b e; exact ⟨j, x, by omega, z⟩
                       · rw [tb_p2 (k := M 23 i) (by omega) a, decide_eq_true_eq] at e; exact ⟨i, by omega, by omega, e.symm⟩)
                    | (obtain ⟨j, x, y, z⟩ := K5 p a b e; exact ⟨j, x, by omega, z⟩)
                · intro j a b e
                  rcases Int.lt_or_eq_of_le (show j ≤ i by omega) with q | q
                  · have z := K6 j a q e
                    first | exact z | (rw [tb_nO, z]; rfl)
                  · rw [q] at e ⊢
                    first
                      | (rw [tb_nO, tb_p2 (k := M 23 i) (j := M 23 i) (by omega) (by omega), decide_eq_true rfl, Bool.or_true]; done)
                      | (exfalso; unfold avl at e; rw [Bool.and_eq_true, decide_eq_true_eq, ← (HC.2.2.1 (M 23 i) (by omega) (by omega)).1, ← (HC.2.2.1 (M 23 i) (by omega) (by omega)).2.1] at e; first | omega | (have z := e.1; simp_all; done) | exact absurd e.2 (by assumption))
                · omega
              · replace b5 := of_decide_eq_true b5
                refine rr_iload5 (pc := 70) B dX2_reckonOne_70 ?_
                refine rr_iconst (z := 1) (pc := 72) B dX2_reckonOne_72 ?_
                refine rr_iload8 (pc := 73) B dX2_reckonOne_73 ?_
                refine rr_shl1 (pc := 75) B dX2_reckonOne_75 (by omega) (fun b6 => ?_)
                refine rr_orN 8 (pc := 76) B dX2_reckonOne_76 (by decide) (by have q2 := p2_le (a := M 23 i) (b := 7) (by omega); have q3 : p2 7 = 128 := rfl; omega) (fun b7 => ?_)
                refine rr_istore5 (pc := 77) B dX2_reckonOne_77 rfl ?_
                refine rr_iload6 (pc := 79) B dX2_reckonOne_79 ?_
                refine rr_aload0 (pc := 81) B dX2_reckonOne_81 ?_
                refine rr_getR (pc := 82) B dX2_reckonOne_82 fl_2_28 or_2_2 ?_
                refine rr_iload8 (pc := 85) B dX2_reckonOne_85 ?_
                refine rr_iconst (z := 2) (pc := 87) B dX2_reckonOne_87 ?_
                refine rc_VI2 (pc := 88) B dX2_reckonOne_88 vm_X1_trait lk_2_93 so_1 rfl (ct_X1_trait _ _ _ _  (by omega) (by omega)) (Nat.le_of_ble_eq_true rfl) (Nat.le_of_ble_eq_true rfl) ?_
                refine rr_iadd (pc := 91) B dX2_reckonOne_91 ?_
                refine rr_istore6 (pc := 92) B dX2_reckonOne_92 rfl ?_
                refine rr_iinc4 (z := (-1)) (pc := 94) B dX2_reckonOne_94 rfl ?_
                refine rr_iinc7 (z := 1) (pc := 97) B dX2_reckonOne_97 rfl ?_
                refine rr_goto 27 (pc := 100) B dX2_reckonOne_100 (by decide) ?_
                refine ih.1 _ _ _ _ _ ?_ ?_ ?_ ?_ ?_ ?_ ?_ ?_
                · omega
                · omega
                · first | exact K2 | (simp only [show ((2 ^ 8 : Nat) : Int) = 256 from rfl] at *; omega)
                · first | exact K3 | (rw [← K3, show l.toNat = (l + -1).toNat + 1 by omega, cIt, if_neg (by rw [PKI (by assumption) (by assumption)]; omega), PKI (by assumption) (by assumption)])
                · first | exact K4 | (rw [prc_add (by omega) NTB, ← K4, (HC.2.2.1 _ (by omega) (by omega)).2.2.1])
                · intro p a b e
                  first
                    | (rw [tb_nO, Bool.or_eq_true] at e
                       rcases e with e | e
                       · obtain ⟨j, x, y, z⟩ := K5 p a b e; exact ⟨j, x, by omega, z⟩
                       · rw [tb_p2 (k := M 23 i) (by omega) a, decide_eq_true_eq] at e; exact ⟨i, by omega, by omega, e.symm⟩)
                    | (obtain ⟨j, x, y, z⟩ := K5 p a b e; exact ⟨j, x, by omega, z⟩)
                · intro j a b e
                  rcases Int.lt_or_eq_of_le (show j ≤ i by omega) with q | q
                  · have z := K6 j a q e
                    first | exact z | (rw [tb_nO, z]; rfl)
                  · rw [q] at e ⊢
                    first
                      | (rw [tb_nO, tb_p2 (k := M 23 i) (j := M 23 i) (by omega) (by omega), decide_eq_true rfl, Bool.or_true]; done)
                      | (exfalso; unfold avl at e; rw [Bool.and_eq_true, decide_eq_true_eq, ← (HC.2.2.1 (M 23 i) (by omega) (by omega)).1, ← (HC.2.2.1 (M 23 i) (by omega) (by omega)).2.1] at e; first | omega | (have z := e.1; simp_all; done) | exact absurd e.2 (by assumption))
                · omega
      · intro l c sm z w7 w8 K0 K1 K2 K3 K4 hm
        refine rr_istore7 (pc := 130) B dX2_reckonOne_130 rfl ?_
        refine rr_aload0 (pc := 132) B dX2_reckonOne_132 ?_
        refine rr_getR (pc := 133) B dX2_reckonOne_133 fl_2_43 or_2_6 ?_
        refine rr_iload1 (pc := 136) B dX2_reckonOne_136 ?_
        refine rr_bipush (z := 8) (pc := 137) B dX2_reckonOne_137 (by decide) ?_
        refine rr_imul (pc := 139) B dX2_reckonOne_139 ?_
        refine rr_iload2 (pc := 140) B dX2_reckonOne_140 ?_
        refine rr_iadd (pc := 141) B dX2_reckonOne_141 ?_
        refine rr_iload4 (pc := 142) B dX2_reckonOne_142 ?_
        refine rr_if_ne 157 (pc := 144) B dX2_reckonOne_144 (by decide) (by omega) (fun b1 => ?_) (fun b1 => ?_)
        · refine rr_iconst (z := (-1)) (pc := 157) B dX2_reckonOne_157 ?_
          refine rr_iastore (pc := 158) B dX2_reckonOne_158 sa_21 (by omega) (by first | omega | (have := K1 (by omega); omega)) ?_
          refine rr_aload0 (pc := 159) B dX2_reckonOne_159 ?_
          refine rr_getR (pc := 160) B dX2_reckonOne_160 fl_2_46 or_2_7 ?_
          refine rr_iload1 (pc := 163) B dX2_reckonOne_163 ?_
          refine rr_bipush (z := 8) (pc := 164) B dX2_reckonOne_164 (by decide) ?_
          refine rr_imul (pc := 166) B dX2_reckonOne_166 ?_
          refine rr_iload2 (pc := 167) B dX2_reckonOne_167 ?_
          refine rr_iadd (pc := 168) B dX2_reckonOne_168 ?_
          refine rr_iload6 (pc := 169) B dX2_reckonOne_169 ?_
          refine rr_iastore (pc := 171) B dX2_reckonOne_171 sa_22 (by omega) (by have := prc_r V c P57; omega) ?_
          refine rr_return (pc := 172) B Br dX2_reckonOne_172 ⟨rfl, ?_⟩
          · refine ⟨?_, frm_ms (frm_ms frm_rfl (by simp)) (by simp)⟩
            have e1 : cm V d h = if trn V d h = true ∧ V 60 1 = 0 then -3 else cIt V d h (need V d).toNat 0 := rfl
            have w : 0 ≤ c → c ≠ -3 := fun q => by omega
            constructor
            · show ms M 21 (d * 8 + h) _ 21 (d * 8 + h) = whoV V d h
              rw [ms_at]
              unfold whoV
              by_cases q : trn V d h = true ∧ V 60 1 = 0
              · rw [if_pos q] at e1 K4
                rw [e1]
                first | omega | rfl
              · rw [if_neg q] at e1 K4
                rw [e1]
                first
                  | (exfalso; omega)
                  | (rw [(K1 (by omega)).1, if_neg (by have := (K1 (by omega)).2; omega)]; done)
                  | (rw [K2 (by omega)]; rfl)
            · intro q
              rw [ms_at, K3]
              by_cases z : trn V d h = true ∧ V 60 1 = 0
              · rw [if_pos z] at e1; exact absurd e1 q
              · rw [if_neg z] at e1
                by_cases y : l = 0
                · rw [e1, (K1 y).1]
                · rw [K2 y] at e1; exact absurd e1 q
        · refine rr_iload7 (pc := 147) B dX2_reckonOne_147 ?_
          refine rr_if_eq 157 (pc := 149) B dX2_reckonOne_149 (by decide) (by omega) (fun b2 => ?_) (fun b2 => ?_)
          · refine rr_iconst (z := (-1)) (pc := 157) B dX2_reckonOne_157 ?_
            refine rr_iastore (pc := 158) B dX2_reckonOne_158 sa_21 (by omega) (by first | omega | (have := K1 (by omega); omega)) ?_
            refine rr_aload0 (pc := 159) B dX2_reckonOne_159 ?_
            refine rr_getR (pc := 160) B dX2_reckonOne_160 fl_2_46 or_2_7 ?_
            refine rr_iload1 (pc := 163) B dX2_reckonOne_163 ?_
            refine rr_bipush (z := 8) (pc := 164) B dX2_reckonOne_164 (by decide) ?_
            refine rr_imul (pc := 166) B dX2_reckonOne_166 ?_
            refine rr_iload2 (pc := 167) B dX2_reckonOne_167 ?_
            refine rr_iadd (pc := 168) B dX2_reckonOne_168 ?_
            refine rr_iload6 (pc := 169) B dX2_reckonOne_169 ?_
            refine rr_iastore (pc := 171) B dX2_reckonOne_171 sa_22 (by omega) (by have := prc_r V c P57; omega) ?_
            refine rr_return (pc := 172) B Br dX2_reckonOne_172 ⟨rfl, ?_⟩
            · refine ⟨?_, frm_ms (frm_ms frm_rfl (by simp)) (by simp)⟩
              have e1 : cm V d h = if trn V d h = true ∧ V 60 1 = 0 then -3 else cIt V d h (need V d).toNat 0 := rfl
              have w : 0 ≤ c → c ≠ -3 := fun q => by omega
              constructor
              · show ms M 21 (d * 8 + h) _ 21 (d * 8 + h) = whoV V d h
                rw [ms_at]
                unfold whoV
                by_cases q : trn V d h = true ∧ V 60 1 = 0
                · rw [if_pos q] at e1 K4
                  rw [e1]
                  first | omega | rfl
                · rw [if_neg q] at e1 K4
                  rw [e1]
                  first
                    | (exfalso; omega)
                    | (rw [(K1 (by omega)).1, if_neg (by have := (K1 (by omega)).2; omega)]; done)
                    | (rw [K2 (by omega)]; rfl)
              · intro q
                rw [ms_at, K3]
                by_cases z : trn V d h = true ∧ V 60 1 = 0
                · rw [if_pos z] at e1; exact absurd e1 q
                · rw [if_neg z] at e1
                  by_cases y : l = 0
                  · rw [e1, (K1 y).1]
                  · rw [K2 y] at e1; exact absurd e1 q
          · refine rr_iload5 (pc := 152) B dX2_reckonOne_152 ?_
            refine rr_goto 158 (pc := 154) B dX2_reckonOne_154 (by decide) ?_
            refine rr_iastore (pc := 158) B dX2_reckonOne_158 sa_21 (by omega) (by first | omega | (have := K1 (by omega); omega)) ?_
            refine rr_aload0 (pc := 159) B dX2_reckonOne_159 ?_
            refine rr_getR (pc := 160) B dX2_reckonOne_160 fl_2_46 or_2_7 ?_
            refine rr_iload1 (pc := 163) B dX2_reckonOne_163 ?_
            refine rr_bipush (z := 8) (pc := 164) B dX2_reckonOne_164 (by decide) ?_
            refine rr_imul (pc := 166) B dX2_reckonOne_166 ?_
            refine rr_iload2 (pc := 167) B dX2_reckonOne_167 ?_
            refine rr_iadd (pc := 168) B dX2_reckonOne_168 ?_
            refine rr_iload6 (pc := 169) B dX2_reckonOne_169 ?_
            refine rr_iastore (pc := 171) B dX2_reckonOne_171 sa_22 (by omega) (by have := prc_r V c P57; omega) ?_
            refine rr_return (pc := 172) B Br dX2_reckonOne_172 ⟨rfl, ?_⟩
            · refine ⟨?_, frm_ms (frm_ms frm_rfl (by simp)) (by simp)⟩
              have e1 : cm V d h = if trn V d h = true ∧ V 60 1 = 0 then -3 else cIt V d h (need V d).toNat 0 := rfl
              have w : 0 ≤ c → c ≠ -3 := fun q => by omega
              constructor
              · show ms M 21 (d * 8 + h) _ 21 (d * 8 + h) = whoV V d h
                rw [ms_at]
                unfold whoV
                by_cases q : trn V d h = true ∧ V 60 1 = 0
                · rw [if_pos q] at e1 K4
                  rw [e1]
                  first | omega | rfl
                · rw [if_neg q] at e1 K4
                  rw [e1]
                  first
                    | (exfalso; omega)
                    | (rw [(K1 (by omega)).1, if_neg (by have := (K1 (by omega)).2; omega)]; done)
                    | (rw [K2 (by omega)]; rfl)
              · intro q
                rw [ms_at, K3]
                by_cases z : trn V d h = true ∧ V 60 1 = 0
                · rw [if_pos z] at e1; exact absurd e1 q
                · rw [if_neg z] at e1
                  by_cases y : l = 0
                  · rw [e1, (K1 y).1]
                  · rw [K2 y] at e1; exact absurd e1 q
  refine rr_aload0 (pc := 0) B dX2_reckonOne_0 ?_
  refine rr_getR (pc := 1) B dX2_reckonOne_1 fl_2_12 or_2_0 ?_
  refine rr_getR (pc := 4) B dX2_reckonOne_4 fl_2_74 or_0_4 ?_
  refine rr_iload1 (pc := 7) B dX2_reckonOne_7 ?_
  refine rr_ialoadE (pc := 8) B dX2_reckonOne_8 sa_14 (by omega) ((HC.2.1 _ (by omega) (by omega)).2.2.2.2) (fun b1 => ?_)
  refine rr_istore3 (pc := 9) B dX2_reckonOne_9 rfl ?_
  refine rr_aload0 (pc := 10) B dX2_reckonOne_10 ?_
  refine rr_getR (pc := 11) B dX2_reckonOne_11 fl_2_32 or_2_3 ?_
  refine rr_iload1 (pc := 14) B dX2_reckonOne_14 ?_
  refine rr_ialoadE (pc := 15) B dX2_reckonOne_15 sa_18 (by omega) (H4) (fun b2 => ?_)
  refine rr_istore4 (pc := 16) B dX2_reckonOne_16 rfl ?_
  refine rr_iconst (z := 0) (pc := 18) B dX2_reckonOne_18 ?_
  refine rr_istore5 (pc := 19) B dX2_reckonOne_19 rfl ?_
  refine rr_iconst (z := 0) (pc := 21) B dX2_reckonOne_21 ?_
  refine rr_istore6 (pc := 22) B dX2_reckonOne_22 rfl ?_
  refine rr_iconst (z := 0) (pc := 24) B dX2_reckonOne_24 ?_
  refine rr_istore7 (pc := 25) B dX2_reckonOne_25 rfl ?_
  refine (L _).1 _ _ _ _ _ ?_ ?_ ?_ ?_ ?_ ?_ ?_ (Nat.lt_succ_self _)
  · omega
  · omega
  · omega
  · rfl
  · exact (itI_inv (fun _ x => x = 0) (p := 8) (by decide) rfl (fun i x _ _ q => by show x + (if tb 0 i = true then _ else 0) = 0; rw [tb_0, q]; rfl)).symm
  · intro p a b e; rw [tb_0] at e; cases e
  · intro j a b; omega
set_option maxHeartbeats 4000000 in
set_option maxRecDepth 100000 in
theorem ct_X2_reckon (g : ax_G) (M : ax_M) (V : ax_M) (H0 : AgC V M) (H1 : 0 ≤ V 60 1 ∧ V 60 1 ≤ 1) : CT g md_X2_reckon 2 [aR 2] M (pVR (fun M2 => RO V M2 ∧ frm exO M M2)) := by
  refine ct_intro 2 rfl rfl ?_
  intro X hg B Br
  subst hg
  show AW X 0 [some (aR 2), none, none] [] M
  refine rr_rg (fun G0 => ?_)
  have HC := H0
  have N8 : 0 ≤ V 9 2 ∧ V 9 2 ≤ 8 := by have := G0.at ob_0_6.2.1; rw [HC.1] at this; exact this
  have L : ∀ nn : Nat, (∀ (M1 : ax_M) (d : Int) (w2 : Option ax_V), (0 ≤ d ∧ d ≤ V 9 2) → (frm exO M M1) → (SRn V (M1 23) 8) → (ROn V M1 d) → ((100 * (8 - d) + 99).toNat) < nn → AW X 6 [some (aR 2), some (aI d), w2] [] M1) ∧ (∀ (M1 : ax_M) (d h : Int), (0 ≤ d ∧ d < V 9 2) → (frm exO M M1) → (SRn V (M1 23) 8) → (ROn V M1 d) → (M1 18 d = need V d) → (ROd V M1 d) → (∀ g, 0 ≤ g → g < h → ROh V M1 d g) → (0 ≤ h ∧ h ≤ 8) → ((100 * (8 - d) + 20 - h).toNat) < nn → AW X 24 [some (aR 2), some (aI d), some (aI h)] [] M1) ∧ True := by
    intro nn
    induction nn with
    | zero => exact ⟨by intros; omega, by intros; omega, trivial⟩
    | succ nn ih =>
      refine ⟨?_, ?_, trivial⟩
      · intro M1 d w2 K0 K1 K2 K3 hm
        refine rr_rg (fun G1 => ?_)
        refine rr_iload1 (pc := 6) B dX2_reckon_6 ?_
        refine rr_aload0 (pc := 7) B dX2_reckon_7 ?_
        refine rr_getR (pc := 8) B dX2_reckon_8 fl_2_12 or_2_0 ?_
        refine rr_getIE (pc := 11) B dX2_reckon_11 fl_2_55 ob_0_6 ((agc_O H0 K1).1) (fun b1 => ?_)
        refine rr_icmp_ge 48 (pc := 14) B dX2_reckon_14 (by decide) (by omega) (fun b2 => ?_) (fun b2 => ?_)
        · refine rr_return (pc := 48) B Br dX2_reckon_48 ⟨rfl, ?_⟩
          · exact ⟨RO_of (by have z := K3; rw [show d = V 9 2 by omega] at z; exact z), K1⟩
        · refine rr_aload0 (pc := 17) B dX2_reckon_17 ?_
          refine rr_iload1 (pc := 18) B dX2_reckon_18 ?_
          refine rc_VV1 (pc := 19) B dX2_reckon_19 vm_X2_applyRule lk_2_59 so_2 rfl (ct_X2_applyRule _ _ _ V (agc_O H0 K1) (by omega)) (Nat.le_of_ble_eq_true rfl) (Nat.le_of_ble_eq_true rfl) ?_
          refine rr_iconst (z := 0) (pc := 22) B dX2_reckon_22 ?_
          refine rr_istore2 (pc := 23) B dX2_reckon_23 rfl ?_
          refine ih.2.1 _ _ _ ?_ ?_ ?_ ?_ ?_ ?_ ?_ ?_ ?_
          · omega
          · exact frm_ms (frm_ms (frm_ms K1 rfl) rfl) rfl
          · exact K2
          · intro q a b
            have z := K3 q a b
            refine ⟨⟨?_, ?_⟩, z.2⟩
            · show ms _ 19 d _ 19 q = _; rw [ms_off (by omega)]; exact z.1.1
            · show ms _ 20 d _ 20 q = _; rw [ms_off (by omega)]; exact z.1.2
          · show ms M1 18 d (need V d) 18 d = _; exact ms_at _ _ _ _
          · exact ⟨by show ms _ 19 d _ 19 d = _; exact ms_at _ _ _ _, ms_at _ _ _ _⟩
          · intro g a b; omega
          · omega
          · omega
      · intro M1 d h K0 K1 K2 K3 K4 K5 K6 K7 hm
        refine rr_rg (fun G1 => ?_)
        refine rr_iload2 (pc := 24) B dX2_reckon_24 ?_
        refine rr_bipush (z := 8) (pc := 25) B dX2_reckon_25 (by decide) ?_
        refine rr_icmp_ge 42 (pc := 27) B dX2_reckon_27 (by decide) (by omega) (fun b1 => ?_) (fun b1 => ?_)
        · refine rr_iinc1 (z := 1) (pc := 42) B dX2_reckon_42 rfl ?_
          refine rr_goto 6 (pc := 45) B dX2_reckon_45 (by decide) ?_
          refine ih.1 _ _ _ ?_ ?_ ?_ ?_ ?_
          · omega
          · exact K1
          · exact K2
          · intro q a b
            rcases Int.lt_or_eq_of_le (show q ≤ d by omega) with z | z
            · exact K3 q a z
            · subst z; exact ⟨K5, fun g x y => K6 g x (by omega)⟩
          · omega
        · refine rr_aload0 (pc := 30) B dX2_reckon_30 ?_
          refine rr_iload1 (pc := 31) B dX2_reckon_31 ?_
          refine rr_iload2 (pc := 32) B dX2_reckon_32 ?_
          refine rc_VVR2 (pc := 33) B dX2_reckon_33 vm_X2_reckonOne lk_2_63 so_2 rfl (ct_X2_reckonOne _ _ _ _ V (agc_O H0 K1) (by omega) (by omega) (by exact K2) (by exact K4) (by exact K5.1) (by exact H1)) (Nat.le_of_ble_eq_true rfl) (Nat.le_of_ble_eq_true rfl) (fun Mb2 b2 => ?_)
          refine rr_iinc2 (z := 1) (pc := 36) B dX2_reckon_36 rfl ?_
          refine rr_goto 24 (pc := 39) B dX2_reckon_39 (by decide) ?_
          refine ih.2.1 _ _ _ ?_ ?_ ?_ ?_ ?_ ?_ ?_ ?_ ?_
          · omega
          · exact frm_tr K1 (frm_mono b2.2 (fun k i e => by unfold exO at e; have e := of_decide_eq_false e; exact decide_eq_false (by omega)))
          · rw [show Mb2 23 = M1 23 from funext (fun i => b2.2 23 i (decide_eq_false (by omega)))]; exact K2
          · intro q a b
            have z := K3 q a b
            refine ⟨⟨(b2.2 19 q (decide_eq_false (by omega))).trans z.1.1, (b2.2 20 q (decide_eq_false (by omega))).trans z.1.2⟩, fun g x y => ?_⟩
            have w := z.2 g x y
            exact ⟨(b2.2 21 _ (decide_eq_false (by omega))).trans w.1, fun e => (b2.2 22 _ (decide_eq_false (by omega))).trans (w.2 e)⟩
          · exact (b2.2 18 d (decide_eq_false (by omega))).trans K4
          · exact ⟨(b2.2 19 d (decide_eq_false (by omega))).trans K5.1, (b2.2 20 d (decide_eq_false (by omega))).trans K5.2⟩
          · intro g a b
            rcases Int.lt_or_eq_of_le (show g ≤ h by omega) with z | z
            · have w := K6 g a z
              exact ⟨(b2.2 21 _ (decide_eq_false (by omega))).trans w.1, fun e => (b2.2 22 _ (decide_eq_false (by omega))).trans (w.2 e)⟩
            · subst z; exact b2.1
          · omega
          · omega
  refine rr_aload0 (pc := 0) B dX2_reckon_0 ?_
  refine rc_VVR0 (pc := 1) B dX2_reckon_1 vm_X2_sortByPrice lk_2_52 so_2 rfl (ct_X2_sortByPrice _ _  V (H0)) (Nat.le_of_ble_eq_true rfl) (Nat.le_of_ble_eq_true rfl) (fun Mb1 b1 => ?_)
  refine rr_iconst (z := 0) (pc := 4) B dX2_reckon_4 ?_
  refine rr_istore1 (pc := 5) B dX2_reckon_5 rfl ?_
  refine (L _).1 _ _ _ ?_ ?_ ?_ ?_ (Nat.lt_succ_self _)
  · omega
  · exact frm_mono b1.2 (fun k i e => by unfold exO at e; have e := of_decide_eq_false e; exact decide_eq_false (by omega))
  · exact b1.1
  · intro q a b; omega
