set_option maxHeartbeats 4000000 in
set_option maxRecDepth 100000 in
theorem ct_X8_regrets (g : ax_G) (M : ax_M) (m w : Int) (S : ax_M) (H0 : RC S M) (H1 : SI S) (H2 : SR S) (H3 : -2147483648 ≤ m ∧ m ≤ 2147483647 ∧ -2147483648 ≤ w ∧ w ≤ 2147483647) : CT g md_X8_regrets 4 [aR 8, aI m, aI w] M (pLR (vRegr S m w) (fun M2 => RC (S) M2 ∧ mo M M2)) := by
  refine ct_intro 4 rfl rfl ?_
  intro X hg B Br
  subst hg
  show AW X 0 [some (aR 8), some (aI m), some (aI w), none, none, none, none] [] M
  refine rr_rg (fun G0 => ?_)
  have N8 := vw_n8 H2
  have HO := hop_on (vw S) N8
  have L : ∀ nn : Nat, (∀ (M1 : ax_M) (z a b i : Int), (RC S M1 ∧ mo M M1) → (z = nev (vw S) (vw S 9 2) ∧ a = fal z i ∧ b = fal (vw S 9 2) i) → (0 ≤ i ∧ i ≤ m) → ((0 ≤ m ∧ m ≤ 8) ∧ m ≤ vw S 9 2 ∧ (0 ≤ w ∧ w ≤ 1)) → ((8 - i).toNat) < nn → AW X 72 [some (aR 8), some (aI m), some (aI w), some (aI z), some (aI a), some (aI b), some (aI i)] [] M1) ∧ True := by
    intro nn
    induction nn with
    | zero => exact ⟨by intros; omega, trivial⟩
    | succ nn ih =>
      refine ⟨?_, trivial⟩
      · intro M1 z a b i K0 K1 K2 K3 hm
        refine rr_rg (fun G1 => ?_)
        have FE := fal_eq (n := vw S 9 2) (z := z) (m := i) (w := w) N8 (by omega) (by omega) (by omega)
        refine rr_iload6 (pc := 72) B dX8_regrets_72 ?_
        refine rr_iload1 (pc := 74) B dX8_regrets_74 ?_
        refine rr_icmp_ge 112 (pc := 75) B dX8_regrets_75 (by decide) (by omega) (fun b1 => ?_) (fun b1 => ?_)
        · refine rr_iload4 (pc := 112) B dX8_regrets_112 ?_
          refine rr_iload5 (pc := 114) B dX8_regrets_114 ?_
          refine rr_iload2 (pc := 116) B dX8_regrets_116 ?_
          refine rc_SL3 (pc := 117) B dX8_regrets_117 st_X8_lowestTerm lk_8_233 (ct_X8_lowestTerm _ _ _ _ _  (by first | omega | (rw [K1.2.1, K1.2.2]; have q := FE.1; omega)) (by first | omega | (rw [K1.2.1, K1.2.2]; have q := FE.1; omega)) (by first | omega | (rw [K1.2.1, K1.2.2]; have q := FE.1; omega))) (Nat.le_of_ble_eq_true rfl) (Nat.le_of_ble_eq_true rfl) ?_
          refine rr_lreturn (pc := 120) B Br dX8_regrets_120 ⟨congrArg (fun z => some (aL z)) ?_, ?_⟩
          · unfold vRegr rgV; rw [if_pos (by omega), if_neg (by omega), K1.2.1, K1.2.2, FE.2, K1.1, show i = m by omega]
          · exact K0
        · refine rr_iload4 (pc := 78) B dX8_regrets_78 ?_
          refine rr_iconst (z := 0) (pc := 80) B dX8_regrets_80 ?_
          refine rr_iload3 (pc := 81) B dX8_regrets_81 ?_
          refine rr_iload6 (pc := 82) B dX8_regrets_82 ?_
          refine rr_isub (pc := 84) B dX8_regrets_84 ?_
          refine rr_max (pc := 85) B dX8_regrets_85 (by decide) lk_8_270 (by omega) (Nat.le_of_ble_eq_true rfl) ?_
          refine rr_imul (pc := 88) B dX8_regrets_88 ?_
          refine rr_istore4 (pc := 89) B dX8_regrets_89 rfl ?_
          refine rr_iload5 (pc := 91) B dX8_regrets_91 ?_
          refine rr_aload0 (pc := 93) B dX8_regrets_93 ?_
          refine rr_getR (pc := 94) B dX8_regrets_94 fl_8_27 or_8_2 ?_
          refine rr_getIE (pc := 97) B dX8_regrets_97 fl_8_201 ob_0_6 ((show M1 0 6 = vw S 9 2 from K0.1.1.1.1.2.1)) (fun b2 => ?_)
          refine rr_iload6 (pc := 100) B dX8_regrets_100 ?_
          refine rr_isub (pc := 102) B dX8_regrets_102 ?_
          refine rr_imul (pc := 103) B dX8_regrets_103 ?_
          refine rr_istore5 (pc := 104) B dX8_regrets_104 rfl ?_
          refine rr_iinc6 (z := 1) (pc := 106) B dX8_regrets_106 rfl ?_
          refine rr_goto 72 (pc := 109) B dX8_regrets_109 (by decide) ?_
          refine ih.1 _ _ _ _ _ ?_ ?_ ?_ ?_ ?_
          · first | exact K0 | exact ⟨b3.1, b3.2.1⟩
          · rw [fal_s _ K2.1, fal_s _ K2.1, ← K1.2.1, ← K1.2.2]; refine ⟨K1.1, ?_, ?_⟩
            · congr 1; split <;> split <;> omega
            · congr 1; split <;> omega
          · omega
          · omega
          · omega
  refine rr_iload1 (pc := 0) B dX8_regrets_0 ?_
  refine rr_bipush (z := 8) (pc := 1) B dX8_regrets_1 (by decide) ?_
  refine rc_SI2 (pc := 3) B dX8_regrets_3 st_X8_within lk_8_74 (ct_X8_within _ _ _ _  (by first | exact H0 | exact H1 | exact H2 | omega)) (Nat.le_of_ble_eq_true rfl) (Nat.le_of_ble_eq_true rfl) ?_
  refine rr_if_eqB 17 (pc := 6) B dX8_regrets_6 (by decide) (fun b1 => ?_) (fun b1 => ?_)
  · replace b1 := of_decide_eq_false b1
    refine rr_bipush (z := (-2)) (pc := 17) B dX8_regrets_17 (by decide) ?_
    refine rc_SL1 (pc := 19) B dX8_regrets_19 st_X8_refusal lk_8_220 (ct_X8_refusal _ _ _  (by omega)) (Nat.le_of_ble_eq_true rfl) (Nat.le_of_ble_eq_true rfl) ?_
    refine rr_lreturn (pc := 22) B Br dX8_regrets_22 ⟨congrArg (fun z => some (aL z)) ?_, ?_⟩
    · unfold vRegr; rw [if_neg (by omega)]
    · exact ⟨H0, mo_r M⟩
  · replace b1 := of_decide_eq_true b1
    refine rr_iload2 (pc := 9) B dX8_regrets_9 ?_
    refine rr_iconst (z := 1) (pc := 10) B dX8_regrets_10 ?_
    refine rc_SI2 (pc := 11) B dX8_regrets_11 st_X8_within lk_8_74 (ct_X8_within _ _ _ _  (by first | exact H0 | exact H1 | exact H2 | omega)) (Nat.le_of_ble_eq_true rfl) (Nat.le_of_ble_eq_true rfl) ?_
    refine rr_if_neB 23 (pc := 14) B dX8_regrets_14 (by decide) (fun b2 => ?_) (fun b2 => ?_)
    · replace b2 := of_decide_eq_true b2
      refine rr_aload0 (pc := 23) B dX8_regrets_23 ?_
      refine rc_VVR0 (pc := 24) B dX8_regrets_24 vm_X8_reckonOffers lk_8_175 so_8 rfl (ct_X8_reckonOffers _ _  _ (by first | exact H0 | exact H1 | exact H2 | omega) (by first | exact H0 | exact H1 | exact H2 | omega) (by first | exact H0 | exact H1 | exact H2 | omega)) (Nat.le_of_ble_eq_true rfl) (Nat.le_of_ble_eq_true rfl) (fun Mb3 b3 => ?_)
      refine rr_iload1 (pc := 27) B dX8_regrets_27 ?_
      refine rr_aload0 (pc := 28) B dX8_regrets_28 ?_
      refine rr_getR (pc := 29) B dX8_regrets_29 fl_8_27 or_8_2 ?_
      refine rr_getIE (pc := 32) B dX8_regrets_32 fl_8_201 ob_0_6 ((show Mb3 0 6 = vw S 9 2 from b3.1.1.1.1.2.1)) (fun b4 => ?_)
      refine rr_icmp_le 44 (pc := 35) B dX8_regrets_35 (by decide) (by omega) (fun b5 => ?_) (fun b5 => ?_)
      · refine rr_aload0 (pc := 44) B dX8_regrets_44 ?_
        refine rr_getR (pc := 45) B dX8_regrets_45 fl_8_27 or_8_2 ?_
        refine rr_getIE (pc := 48) B dX8_regrets_48 fl_8_201 ob_0_6 ((show Mb3 0 6 = vw S 9 2 from b3.1.1.1.1.2.1)) (fun b6 => ?_)
        refine rr_aload0 (pc := 51) B dX8_regrets_51 ?_
        refine rr_getR (pc := 52) B dX8_regrets_52 fl_8_20 or_8_1 ?_
        refine rc_VI0 (pc := 55) B dX8_regrets_55 vm_X2_hopefulDeeds lk_8_267 so_2 rfl (ct_X2_hopefulDeeds _ _  (vw S) (RC_ag H2 b3.1) (RC_RO b3.1 b3.2.2)) (Nat.le_of_ble_eq_true rfl) (Nat.le_of_ble_eq_true rfl) ?_
        refine rc_SI1 (pc := 58) B dX8_regrets_58 st_J_bitCount lk_8_251 (ct_J_bitCount _ _ _  (by have := hop_r (vw S) N8; have := hop_lt (vw S) N8; omega)) (Nat.le_of_ble_eq_true rfl) (Nat.le_of_ble_eq_true rfl) ?_
        refine rr_isub (pc := 61) B dX8_regrets_61 ?_
        refine rr_istore3 (pc := 62) B dX8_regrets_62 rfl ?_
        refine rr_iconst (z := 1) (pc := 63) B dX8_regrets_63 ?_
        refine rr_istore4 (pc := 64) B dX8_regrets_64 rfl ?_
        refine rr_iconst (z := 1) (pc := 66) B dX8_regrets_66 ?_
        refine rr_istore5 (pc := 67) B dX8_regrets_67 rfl ?_
        refine rr_iconst (z := 0) (pc := 69) B dX8_regrets_69 ?_
        refine rr_istore6 (pc := 70) B dX8_regrets_70 rfl ?_
        refine (L _).1 _ _ _ _ _ ?_ ?_ ?_ ?_ (Nat.lt_succ_self _)
        · first | exact K0 | exact ⟨b3.1, b3.2.1⟩
        · exact ⟨by omega, rfl, rfl⟩
        · omega
        · omega
      · refine rr_bipush (z := (-3)) (pc := 38) B dX8_regrets_38 (by decide) ?_
        refine rc_SL1 (pc := 40) B dX8_regrets_40 st_X8_refusal lk_8_220 (ct_X8_refusal _ _ _  (by omega)) (Nat.le_of_ble_eq_true rfl) (Nat.le_of_ble_eq_true rfl) ?_
        refine rr_lreturn (pc := 43) B Br dX8_regrets_43 ⟨congrArg (fun z => some (aL z)) ?_, ?_⟩
        · unfold vRegr rgV; rw [if_pos (by omega), if_pos (by omega)]
        · exact ⟨b3.1, b3.2.1⟩
    · replace b2 := of_decide_eq_false b2
      refine rr_bipush (z := (-2)) (pc := 17) B dX8_regrets_17 (by decide) ?_
      refine rc_SL1 (pc := 19) B dX8_regrets_19 st_X8_refusal lk_8_220 (ct_X8_refusal _ _ _  (by omega)) (Nat.le_of_ble_eq_true rfl) (Nat.le_of_ble_eq_true rfl) ?_
      refine rr_lreturn (pc := 22) B Br dX8_regrets_22 ⟨congrArg (fun z => some (aL z)) ?_, ?_⟩
      · unfold vRegr; rw [if_neg (by omega)]
      · exact ⟨H0, mo_r M⟩
