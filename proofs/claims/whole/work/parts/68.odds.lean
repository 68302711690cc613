theorem lik_n {V : ax_M} {d h : Int} (c : cm V d h ≠ -3) : 0 ≤ lik V d h := by
  unfold lik
  rw [if_neg c]
  have h1 := on_r (cm V d h)
  have h2 := on_r (V 51 d)
  have h3 : 0 ≤ 3 * on (cm V d h) / on (V 51 d) := Int.ediv_nonneg (by omega) h2.1
  split <;> split <;> omega
set_option maxHeartbeats 4000000 in
set_option maxRecDepth 100000 in
theorem ct_X8_odds (g : ax_G) (M : ax_M) (d h w : Int) (S : ax_M) (H0 : RC S M) (H1 : SI S) (H2 : SR S) (H3 : -2147483648 ≤ d ∧ d ≤ 2147483647 ∧ -2147483648 ≤ h ∧ h ≤ 2147483647 ∧ -2147483648 ≤ w ∧ w ≤ 2147483647) : CT g md_X8_odds 4 [aR 8, aI d, aI h, aI w] M (pLR (vOdds S d h w) (fun M2 => RC (S) M2 ∧ mo M M2)) := by
  refine ct_intro 4 rfl rfl ?_
  intro X hg B Br
  subst hg
  show AW X 0 [some (aR 8), some (aI d), some (aI h), some (aI w), none, none, none, none] [] M
  refine rr_rg (fun G0 => ?_)
  have N8 := vw_n8 H2
  have V58 : ∀ p, 0 ≤ vw S 58 p ∧ vw S 58 p ≤ 16 := fun p => H2 58 p rfl
  have L : ∀ nn : Nat, (∀ (M1 : ax_M) (a b p : Int), (RC S M1 ∧ mo M M1) → (a = tp (vw S) (cm (vw S) d h) p ∧ b = bt (cm (vw S) d h) p) → (0 ≤ p ∧ p ≤ 8) → ((isD S d ∧ isH h ∧ (0 ≤ w ∧ w ≤ 1)) ∧ cm (vw S) d h ≠ -3 ∧ lik (vw S) d h < vw S 60 3) → ((0 ≤ cm (vw S) d h ∧ cm (vw S) d h < 256) ∧ on (cm (vw S) d h) ≤ 4) → ((8 - p).toNat) < nn → AW X 94 [some (aR 8), some (aI d), some (aI h), some (aI w), some (aI a), some (aI b), some (aI (cm (vw S) d h)), some (aI p)] [] M1) ∧ True := by
    intro nn
    induction nn with
    | zero => exact ⟨by intros; omega, trivial⟩
    | succ nn ih =>
      refine ⟨?_, trivial⟩
      · intro M1 a b p K0 K1 K2 K3 K4 hm
        refine rr_rg (fun G1 => ?_)
        refine rr_iload7 (pc := 94) B dX8_odds_94 ?_
        refine rr_bipush (z := 8) (pc := 96) B dX8_odds_96 (by decide) ?_
        refine rr_icmp_ge 142 (pc := 98) B dX8_odds_98 (by decide) (by omega) (fun b1 => ?_) (fun b1 => ?_)
        · refine rr_iload4 (pc := 142) B dX8_odds_142 ?_
          refine rr_iload5 (pc := 144) B dX8_odds_144 ?_
          refine rr_iload3 (pc := 146) B dX8_odds_146 ?_
          refine rc_SL3 (pc := 147) B dX8_odds_147 st_X8_lowestTerm lk_8_233 (ct_X8_lowestTerm _ _ _ _ _  (by first | omega | (have q := tp_r V58 (cm (vw S) d h) K2.1; have r := bt_r K4.1 K4.2 K2; omega)) (by first | omega | (have q := tp_r V58 (cm (vw S) d h) K2.1; have r := bt_r K4.1 K4.2 K2; omega)) (by first | omega | (have q := tp_r V58 (cm (vw S) d h) K2.1; have r := bt_r K4.1 K4.2 K2; omega))) (Nat.le_of_ble_eq_true rfl) (Nat.le_of_ble_eq_true rfl) ?_
          refine rr_lreturn (pc := 150) B Br dX8_odds_150 ⟨congrArg (fun z => some (aL z)) ?_, ?_⟩
          · unfold vOdds odV
            first
            | (rw [if_pos K3.1, if_neg (by have := lik_n K3.2.1; omega), (o_yes K3.2.2).1, (o_yes K3.2.2).2, K1.1, K1.2, show p = 8 by omega]; done)
            | (rw [if_pos (by omega), if_neg (by have := lik_n b5; omega), (o_no (show ¬ lik (vw S) d h < vw S 60 3 by omega)).1, (o_no (show ¬ lik (vw S) d h < vw S 60 3 by omega)).2]; done)
          · first | exact K0 | exact ⟨b4.1, b4.2.1⟩
        · refine rr_iload6 (pc := 101) B dX8_odds_101 ?_
          refine rr_iload7 (pc := 103) B dX8_odds_103 ?_
          refine rc_SI2 (pc := 105) B dX8_odds_105 st_X8_hasBit lk_8_227 (ct_X8_hasBit _ _ _ _  (by omega) (by omega)) (Nat.le_of_ble_eq_true rfl) (Nat.le_of_ble_eq_true rfl) ?_
          refine rr_if_eqB 136 (pc := 108) B dX8_odds_108 (by decide) (fun b2 => ?_) (fun b2 => ?_)
          · refine rr_iinc7 (z := 1) (pc := 136) B dX8_odds_136 rfl ?_
            refine rr_goto 94 (pc := 139) B dX8_odds_139 (by decide) ?_
            refine ih.1 _ _ _ _ ?_ ?_ ?_ ?_ ?_ ?_
            · first | exact K0 | exact ⟨b4.1, b4.2.1⟩
            · rw [tp_s _ _ K2.1, bt_s _ K2.1, ← K1.1, ← K1.2]
              first
              | (rw [if_pos (by assumption), if_pos (by assumption), show M1 15 (p * 4 + 3) = vw S 58 p from (K0.1.2.1.1 p (by omega) (by omega)).2.2.2]; exact ⟨rfl, rfl⟩)
              | (rw [if_neg (by simp_all), if_neg (by simp_all)]; exact ⟨rfl, rfl⟩)
            · omega
            · exact K3
            · exact K4
            · omega
          · refine rr_iload4 (pc := 111) B dX8_odds_111 ?_
            refine rr_bipush (z := 16) (pc := 113) B dX8_odds_113 (by decide) ?_
            refine rr_aload0 (pc := 115) B dX8_odds_115 ?_
            refine rr_getR (pc := 116) B dX8_odds_116 fl_8_41 or_8_4 ?_
            refine rr_iload7 (pc := 119) B dX8_odds_119 ?_
            refine rr_iconst (z := 3) (pc := 121) B dX8_odds_121 ?_
            refine rc_VI2 (pc := 122) B dX8_odds_122 vm_X1_trait lk_8_230 so_1 rfl (ct_X1_trait _ _ _ _  (by omega) (by omega)) (Nat.le_of_ble_eq_true rfl) (Nat.le_of_ble_eq_true rfl) ?_
            refine rr_isub (pc := 125) B dX8_odds_125 ?_
            refine rr_imul (pc := 126) B dX8_odds_126 ?_
            refine rr_istore4 (pc := 127) B dX8_odds_127 rfl ?_
            refine rr_iload5 (pc := 129) B dX8_odds_129 ?_
            refine rr_bipush (z := 16) (pc := 131) B dX8_odds_131 (by decide) ?_
            refine rr_imul (pc := 133) B dX8_odds_133 ?_
            refine rr_istore5 (pc := 134) B dX8_odds_134 rfl ?_
            refine rr_iinc7 (z := 1) (pc := 136) B dX8_odds_136 rfl ?_
            refine rr_goto 94 (pc := 139) B dX8_odds_139 (by decide) ?_
            refine ih.1 _ _ _ _ ?_ ?_ ?_ ?_ ?_ ?_
            · first | exact K0 | exact ⟨b4.1, b4.2.1⟩
            · rw [tp_s _ _ K2.1, bt_s _ K2.1, ← K1.1, ← K1.2]
              first
              | (rw [if_pos (by assumption), if_pos (by assumption), show M1 15 (p * 4 + 3) = vw S 58 p from (K0.1.2.1.1 p (by omega) (by omega)).2.2.2]; exact ⟨rfl, rfl⟩)
              | (rw [if_neg (by simp_all), if_neg (by simp_all)]; exact ⟨rfl, rfl⟩)
            · omega
            · exact K3
            · exact K4
            · omega
  refine rr_aload0 (pc := 0) B dX8_odds_0 ?_
  refine rr_iload1 (pc := 1) B dX8_odds_1 ?_
  refine rc_VI1 (pc := 2) B dX8_odds_2 vm_X8_isDeed lk_8_104 so_8 rfl (ct_X8_isDeed _ _ _ _ (by first | exact H0 | exact H1 | exact H2 | omega) (by first | exact H0 | exact H1 | exact H2 | omega)) (Nat.le_of_ble_eq_true rfl) (Nat.le_of_ble_eq_true rfl) ?_
  refine rr_if_eqB 25 (pc := 5) B dX8_odds_5 (by decide) (fun b1 => ?_) (fun b1 => ?_)
  · replace b1 := of_decide_eq_false b1
    refine rr_bipush (z := (-2)) (pc := 25) B dX8_odds_25 (by decide) ?_
    refine rc_SL1 (pc := 27) B dX8_odds_27 st_X8_refusal lk_8_220 (ct_X8_refusal _ _ _  (by omega)) (Nat.le_of_ble_eq_true rfl) (Nat.le_of_ble_eq_true rfl) ?_
    refine rr_lreturn (pc := 30) B Br dX8_odds_30 ⟨congrArg (fun z => some (aL z)) ?_, ?_⟩
    · unfold vOdds; rw [if_neg (by omega)]
    · exact ⟨H0, mo_r M⟩
  · replace b1 := of_decide_eq_true b1
    refine rr_iload2 (pc := 8) B dX8_odds_8 ?_
    refine rr_bipush (z := 7) (pc := 9) B dX8_odds_9 (by decide) ?_
    refine rc_SI2 (pc := 11) B dX8_odds_11 st_X8_within lk_8_74 (ct_X8_within _ _ _ _  (by first | exact H0 | exact H1 | exact H2 | omega)) (Nat.le_of_ble_eq_true rfl) (Nat.le_of_ble_eq_true rfl) ?_
    refine rr_if_eqB 25 (pc := 14) B dX8_odds_14 (by decide) (fun b2 => ?_) (fun b2 => ?_)
    · replace b2 := of_decide_eq_false b2
      refine rr_bipush (z := (-2)) (pc := 25) B dX8_odds_25 (by decide) ?_
      refine rc_SL1 (pc := 27) B dX8_odds_27 st_X8_refusal lk_8_220 (ct_X8_refusal _ _ _  (by omega)) (Nat.le_of_ble_eq_true rfl) (Nat.le_of_ble_eq_true rfl) ?_
      refine rr_lreturn (pc := 30) B Br dX8_odds_30 ⟨congrArg (fun z => some (aL z)) ?_, ?_⟩
      · unfold vOdds; rw [if_neg (by omega)]
      · exact ⟨H0, mo_r M⟩
    · replace b2 := of_decide_eq_true b2
      refine rr_iload3 (pc := 17) B dX8_odds_17 ?_
      refine rr_iconst (z := 1) (pc := 18) B dX8_odds_18 ?_
      refine rc_SI2 (pc := 19) B dX8_odds_19 st_X8_within lk_8_74 (ct_X8_within _ _ _ _  (by first | exact H0 | exact H1 | exact H2 | omega)) (Nat.le_of_ble_eq_true rfl) (Nat.le_of_ble_eq_true rfl) ?_
      refine rr_if_neB 31 (pc := 22) B dX8_odds_22 (by decide) (fun b3 => ?_) (fun b3 => ?_)
      · replace b3 := of_decide_eq_true b3
        refine rr_aload0 (pc := 31) B dX8_odds_31 ?_
        refine rc_VVR0 (pc := 32) B dX8_odds_32 vm_X8_reckonOffers lk_8_175 so_8 rfl (ct_X8_reckonOffers _ _  _ (by first | exact H0 | exact H1 | exact H2 | omega) (by first | exact H0 | exact H1 | exact H2 | omega) (by first | exact H0 | exact H1 | exact H2 | omega)) (Nat.le_of_ble_eq_true rfl) (Nat.le_of_ble_eq_true rfl) (fun Mb4 b4 => ?_)
        refine rr_rg (fun G4 => ?_)
        refine rr_aload0 (pc := 35) B dX8_odds_35 ?_
        refine rr_getR (pc := 36) B dX8_odds_36 fl_8_20 or_8_1 ?_
        refine rr_iload1 (pc := 39) B dX8_odds_39 ?_
        refine rr_iload2 (pc := 40) B dX8_odds_40 ?_
        refine rc_VI2 (pc := 41) B dX8_odds_41 vm_X2_isOpen lk_8_178 so_2 rfl (ct_X2_isOpen _ _ _ _ (vw S) (RC_ag H2 b4.1) (RC_RO b4.1 b4.2.2) (by first | exact H0 | exact H1 | exact H2 | omega) (by first | exact H0 | exact H1 | exact H2 | omega)) (Nat.le_of_ble_eq_true rfl) (Nat.le_of_ble_eq_true rfl) ?_
        refine rr_if_neB 53 (pc := 44) B dX8_odds_44 (by decide) (fun b5 => ?_) (fun b5 => ?_)
        · replace b5 := of_decide_eq_true b5
          refine rr_iconst (z := 1) (pc := 53) B dX8_odds_53 ?_
          refine rr_istore4 (pc := 54) B dX8_odds_54 rfl ?_
          refine rr_iconst (z := 1) (pc := 56) B dX8_odds_56 ?_
          refine rr_istore5 (pc := 57) B dX8_odds_57 rfl ?_
          refine rr_aload0 (pc := 59) B dX8_odds_59 ?_
          refine rr_getR (pc := 60) B dX8_odds_60 fl_8_20 or_8_1 ?_
          refine rr_iload1 (pc := 63) B dX8_odds_63 ?_
          refine rr_iload2 (pc := 64) B dX8_odds_64 ?_
          refine rc_VI2 (pc := 65) B dX8_odds_65 vm_X2_tenths lk_8_217 so_2 rfl (ct_X2_tenths _ _ _ _ (vw S) (RC_ag H2 b4.1) (RC_RO b4.1 b4.2.2) (by first | omega | exact b5 | exact vw_p H2 d (by omega) (by omega)) (by first | omega | exact b5 | exact vw_p H2 d (by omega) (by omega)) (by first | omega | exact b5 | exact vw_p H2 d (by omega) (by omega)) (by first | omega | exact b5 | exact vw_p H2 d (by omega) (by omega))) (Nat.le_of_ble_eq_true rfl) (Nat.le_of_ble_eq_true rfl) ?_
          refine rr_aload0 (pc := 68) B dX8_odds_68 ?_
          refine rr_getR (pc := 69) B dX8_odds_69 fl_8_41 or_8_4 ?_
          refine rr_getR (pc := 72) B dX8_odds_72 fl_8_224 or_1_2 ?_
          refine rr_iconst (z := 3) (pc := 75) B dX8_odds_75 ?_
          refine rr_ialoadE (pc := 76) B dX8_odds_76 sa_17 (by omega) ((RC_ag H2 b4.1).2.2.2.2.1 3 (by decide) (by decide)) (fun b6 => ?_)
          refine rr_icmp_ge 142 (pc := 77) B dX8_odds_77 (by decide) (by have := lik_r (vw S) d h; omega) (fun b7 => ?_) (fun b7 => ?_)
          · refine rr_iload4 (pc := 142) B dX8_odds_142 ?_
            refine rr_iload5 (pc := 144) B dX8_odds_144 ?_
            refine rr_iload3 (pc := 146) B dX8_odds_146 ?_
            refine rc_SL3 (pc := 147) B dX8_odds_147 st_X8_lowestTerm lk_8_233 (ct_X8_lowestTerm _ _ _ _ _  (by first | omega | (have q := tp_r V58 (cm (vw S) d h) K2.1; have r := bt_r K4.1 K4.2 K2; omega)) (by first | omega | (have q := tp_r V58 (cm (vw S) d h) K2.1; have r := bt_r K4.1 K4.2 K2; omega)) (by first | omega | (have q := tp_r V58 (cm (vw S) d h) K2.1; have r := bt_r K4.1 K4.2 K2; omega))) (Nat.le_of_ble_eq_true rfl) (Nat.le_of_ble_eq_true rfl) ?_
            refine rr_lreturn (pc := 150) B Br dX8_odds_150 ⟨congrArg (fun z => some (aL z)) ?_, ?_⟩
            · unfold vOdds odV
              first
              | (rw [if_pos K3.1, if_neg (by have := lik_n K3.2.1; omega), (o_yes K3.2.2).1, (o_yes K3.2.2).2, K1.1, K1.2, show p = 8 by omega]; done)
              | (rw [if_pos (by omega), if_neg (by have := lik_n b5; omega), (o_no (show ¬ lik (vw S) d h < vw S 60 3 by omega)).1, (o_no (show ¬ lik (vw S) d h < vw S 60 3 by omega)).2]; done)
            · first | exact K0 | exact ⟨b4.1, b4.2.1⟩
          · refine rr_aload0 (pc := 80) B dX8_odds_80 ?_
            refine rr_getR (pc := 81) B dX8_odds_81 fl_8_20 or_8_1 ?_
            refine rr_iload1 (pc := 84) B dX8_odds_84 ?_
            refine rr_iload2 (pc := 85) B dX8_odds_85 ?_
            refine rc_VI2 (pc := 86) B dX8_odds_86 vm_X2_whoComes lk_8_184 so_2 rfl (ct_X2_whoComes _ _ _ _ (vw S) (RC_ag H2 b4.1) (RC_RO b4.1 b4.2.2) (by omega) (by omega)) (Nat.le_of_ble_eq_true rfl) (Nat.le_of_ble_eq_true rfl) ?_
            rw [show whoV (vw S) d h = cm (vw S) d h from if_neg b5]
            refine rr_istore6 (pc := 89) B dX8_odds_89 rfl ?_
            refine rr_iconst (z := 0) (pc := 91) B dX8_odds_91 ?_
            refine rr_istore7 (pc := 92) B dX8_odds_92 rfl ?_
            refine (L _).1 _ _ _ _ ?_ ?_ ?_ ?_ ?_ (Nat.lt_succ_self _)
            · first | exact K0 | exact ⟨b4.1, b4.2.1⟩
            · exact ⟨rfl, rfl⟩
            · omega
            · exact ⟨by omega, b5, by omega⟩
            · refine ⟨(cm_r (vw S) d h).resolve_left b5, cm_on ?_ b5⟩
              have k3 := vw_47 H2 d
              have z := ((RC_ag H2 b4.1).2.2.2.2.2 (vw S 47 d) (by omega) (by omega)).1
              rw [← z]
              have y := G4.at (sa_30.2.2 (vw S 47 d))
              split
              · exact y.2
              · omega
        · replace b5 := of_decide_eq_false b5
          refine rr_bipush (z := (-3)) (pc := 47) B dX8_odds_47 (by decide) ?_
          refine rc_SL1 (pc := 49) B dX8_odds_49 st_X8_refusal lk_8_220 (ct_X8_refusal _ _ _  (by omega)) (Nat.le_of_ble_eq_true rfl) (Nat.le_of_ble_eq_true rfl) ?_
          refine rr_lreturn (pc := 52) B Br dX8_odds_52 ⟨congrArg (fun z => some (aL z)) ?_, ?_⟩
          · unfold vOdds odV; rw [if_pos (by omega)]; rw [if_pos (by unfold lik; rw [if_pos (Classical.not_not.mp b5)])]
          · exact ⟨b4.1, b4.2.1⟩
      · replace b3 := of_decide_eq_false b3
        refine rr_bipush (z := (-2)) (pc := 25) B dX8_odds_25 (by decide) ?_
        refine rc_SL1 (pc := 27) B dX8_odds_27 st_X8_refusal lk_8_220 (ct_X8_refusal _ _ _  (by omega)) (Nat.le_of_ble_eq_true rfl) (Nat.le_of_ble_eq_true rfl) ?_
        refine rr_lreturn (pc := 30) B Br dX8_odds_30 ⟨congrArg (fun z => some (aL z)) ?_, ?_⟩
        · unfold vOdds; rw [if_neg (by omega)]
        · exact ⟨H0, mo_r M⟩
