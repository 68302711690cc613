set_option maxHeartbeats 4000000 in
set_option maxRecDepth 100000 in
theorem ct_X8_plan (g : ax_G) (M : ax_M) (s w : Int) (S : ax_M) (H0 : RC S M) (H1 : SI S) (H2 : SR S) (H3 : -2147483648 ≤ s ∧ s ≤ 2147483647 ∧ -2147483648 ≤ w ∧ w ≤ 2147483647) : CT g md_X8_plan 4 [aR 8, aI s, aI w] M (pIR (vPlan S s w) (fun M2 => RC (sPlan S s w) M2 ∧ mo M M2)) := by
  refine ct_intro 1 rfl rfl ?_
  intro X hg B Br
  subst hg
  show AW X 0 [some (aR 8), some (aI s), some (aI w), none] [] M
  refine rr_rg (fun G0 => ?_)
  have Y72 : 0 ≤ S 72 s ∧ S 72 s ≤ 60 := H2 72 s rfl
  have N8 := vw_n8 H2
  have L : ∀ nn : Nat, (∀ (M1 : ax_M) (d : Int), (RC S M1 ∧ mo M M1 ∧ M1 8 9 = 0) → (0 ≤ d ∧ d ≤ vw S 9 2) → (∀ e, 0 ≤ e → e < d → M1 44 e = S 73 (60 * s + e)) → ((0 ≤ s ∧ s ≤ 3) ∧ S 70 s ≠ 0 ∧ (0 ≤ w ∧ w ≤ 2) ∧ vw S 9 2 ≤ S 72 s) → ((8 - d).toNat) < nn → AW X 66 [some (aR 8), some (aI s), some (aI w), some (aI d)] [] M1) ∧ True := by
    intro nn
    induction nn with
    | zero => exact ⟨by intros; omega, trivial⟩
    | succ nn ih =>
      refine ⟨?_, trivial⟩
      · intro M1 d K0 K1 K2 K3 hm
        refine rr_rg (fun G1 => ?_)
        refine rr_iload3 (pc := 66) B dX8_plan_66 ?_
        refine rr_aload0 (pc := 67) B dX8_plan_67 ?_
        refine rr_getR (pc := 68) B dX8_plan_68 fl_8_27 or_8_2 ?_
        refine rr_getIE (pc := 71) B dX8_plan_71 fl_8_201 ob_0_6 ((show M1 0 6 = vw S 9 2 from K0.1.1.1.1.2.1)) (fun b1 => ?_)
        refine rr_icmp_ge 100 (pc := 74) B dX8_plan_74 (by decide) (by omega) (fun b2 => ?_) (fun b2 => ?_)
        · refine rr_aload0 (pc := 100) B dX8_plan_100 ?_
          refine rr_getR (pc := 101) B dX8_plan_101 fl_8_20 or_8_1 ?_
          refine rr_aload0 (pc := 104) B dX8_plan_104 ?_
          refine rr_getR (pc := 105) B dX8_plan_105 fl_8_63 or_8_8 ?_
          refine rc_VI1 (pc := 108) B dX8_plan_108 vm_X2_isPlan lk_8_203 so_2 rfl (ct_X2_isPlan _ _  (vw S) (RC_ag H2 K0.1) (RC_RO K0.1 K0.2.2)) (Nat.le_of_ble_eq_true rfl) (Nat.le_of_ble_eq_true rfl) ?_
          refine rr_istore3 (pc := 111) B dX8_plan_111 rfl ?_
          refine rr_iload2 (pc := 112) B dX8_plan_112 ?_
          refine rr_if_ne 126 (pc := 113) B dX8_plan_113 (by decide) (by omega) (fun b3 => ?_) (fun b3 => ?_)
          · refine rr_iload3 (pc := 126) B dX8_plan_126 ?_
            refine rr_if_neB 133 (pc := 127) B dX8_plan_127 (by decide) (fun b4 => ?_) (fun b4 => ?_)
            · refine rr_iload2 (pc := 133) B dX8_plan_133 ?_
              refine rr_iconst (z := 1) (pc := 134) B dX8_plan_134 ?_
              refine rr_icmp_ne 152 (pc := 135) B dX8_plan_135 (by decide) (by omega) (fun b5 => ?_) (fun b5 => ?_)
              · refine rr_aload0 (pc := 152) B dX8_plan_152 ?_
                refine rr_getR (pc := 153) B dX8_plan_153 fl_8_20 or_8_1 ?_
                refine rr_aload0 (pc := 156) B dX8_plan_156 ?_
                refine rr_getR (pc := 157) B dX8_plan_157 fl_8_63 or_8_8 ?_
                refine rc_VI1 (pc := 160) B dX8_plan_160 vm_X2_costOfPlan lk_8_211 so_2 rfl (ct_X2_costOfPlan _ _  (vw S) (RC_ag H2 K0.1) (RC_RO K0.1 K0.2.2) (by first | assumption | simp_all)) (Nat.le_of_ble_eq_true rfl) (Nat.le_of_ble_eq_true rfl) ?_
                refine rr_ireturn (pc := 163) B Br dX8_plan_163 ⟨congrArg (fun z => some (aI z)) ?_, ?_⟩
                · have PD := pl_eq H2 (s := s) (r := M1 44) (fun e a b => K2 e a (by omega))
                  have CN := coQ_n H2 (M1 44)
                  rw [if_pos (show okQ (vw S) (M1 44) = true by first | assumption | simp_all)] at PD
                  unfold vPlan; rw [if_pos (by omega), if_neg K3.2.1]; unfold plO; rw [if_neg (by omega)]
                  rw [if_neg (by omega), if_neg (by omega)]
                  first | (rw [if_pos (by omega)]; exact wr_eq H2 (fun e a b => K2 e a (by omega))) | (rw [if_neg (by omega)]; exact PD.symm)
                · unfold sPlan; rw [if_pos (by omega), if_neg K3.2.1]; exact ⟨K0.1, K0.2.1⟩
              · refine rr_aload0 (pc := 138) B dX8_plan_138 ?_
                refine rr_getR (pc := 139) B dX8_plan_139 fl_8_20 or_8_1 ?_
                refine rr_aload0 (pc := 142) B dX8_plan_142 ?_
                refine rr_getR (pc := 143) B dX8_plan_143 fl_8_63 or_8_8 ?_
                refine rc_VI1 (pc := 146) B dX8_plan_146 vm_X2_worthOfPlan lk_8_207 so_2 rfl (ct_X2_worthOfPlan _ _  (vw S) (RC_ag H2 K0.1) (RC_RO K0.1 K0.2.2)) (Nat.le_of_ble_eq_true rfl) (Nat.le_of_ble_eq_true rfl) ?_
                refine rr_goto 163 (pc := 149) B dX8_plan_149 (by decide) ?_
                refine rr_ireturn (pc := 163) B Br dX8_plan_163 ⟨congrArg (fun z => some (aI z)) ?_, ?_⟩
                · have PD := pl_eq H2 (s := s) (r := M1 44) (fun e a b => K2 e a (by omega))
                  have CN := coQ_n H2 (M1 44)
                  rw [if_pos (show okQ (vw S) (M1 44) = true by first | assumption | simp_all)] at PD
                  unfold vPlan; rw [if_pos (by omega), if_neg K3.2.1]; unfold plO; rw [if_neg (by omega)]
                  rw [if_neg (by omega), if_neg (by omega)]
                  first | (rw [if_pos (by omega)]; exact wr_eq H2 (fun e a b => K2 e a (by omega))) | (rw [if_neg (by omega)]; exact PD.symm)
                · unfold sPlan; rw [if_pos (by omega), if_neg K3.2.1]; exact ⟨K0.1, K0.2.1⟩
            · refine rr_bipush (z := (-3)) (pc := 130) B dX8_plan_130 (by decide) ?_
              refine rr_ireturn (pc := 132) B Br dX8_plan_132 ⟨congrArg (fun z => some (aI z)) ?_, ?_⟩
              · have PD := pl_eq H2 (s := s) (r := M1 44) (fun e a b => K2 e a (by omega))
                have CN := coQ_n H2 (M1 44)
                rw [show okQ (vw S) (M1 44) = false by assumption, if_neg (by decide)] at PD
                unfold vPlan; rw [if_pos (by omega), if_neg K3.2.1]; unfold plO; rw [if_neg (by omega)]
                rw [if_neg (by omega), if_pos PD]
              · unfold sPlan; rw [if_pos (by omega), if_neg K3.2.1]; exact ⟨K0.1, K0.2.1⟩
          · refine rr_iload3 (pc := 116) B dX8_plan_116 ?_
            refine rr_if_eqB 124 (pc := 117) B dX8_plan_117 (by decide) (fun b4 => ?_) (fun b4 => ?_)
            · refine rr_iconst (z := 0) (pc := 124) B dX8_plan_124 ?_
              refine rr_ireturn (pc := 125) B Br dX8_plan_125 ⟨congrArg (fun z => some (aI z)) ?_, ?_⟩
              · have PD := pl_eq H2 (s := s) (r := M1 44) (fun e a b => K2 e a (by omega))
                have CN := coQ_n H2 (M1 44)
                unfold vPlan; rw [if_pos (by omega), if_neg K3.2.1]; unfold plO; rw [if_neg (by omega)]
                rw [if_pos (by omega)]; first | (rw [show okQ (vw S) (M1 44) = true by assumption, if_pos rfl] at PD; rw [if_neg (by omega)]; done) | (rw [show okQ (vw S) (M1 44) = false by assumption, if_neg (by decide)] at PD; rw [if_pos PD]; done)
              · unfold sPlan; rw [if_pos (by omega), if_neg K3.2.1]; exact ⟨K0.1, K0.2.1⟩
            · refine rr_iconst (z := 1) (pc := 120) B dX8_plan_120 ?_
              refine rr_goto 125 (pc := 121) B dX8_plan_121 (by decide) ?_
              refine rr_ireturn (pc := 125) B Br dX8_plan_125 ⟨congrArg (fun z => some (aI z)) ?_, ?_⟩
              · have PD := pl_eq H2 (s := s) (r := M1 44) (fun e a b => K2 e a (by omega))
                have CN := coQ_n H2 (M1 44)
                unfold vPlan; rw [if_pos (by omega), if_neg K3.2.1]; unfold plO; rw [if_neg (by omega)]
                rw [if_pos (by omega)]; first | (rw [show okQ (vw S) (M1 44) = true by assumption, if_pos rfl] at PD; rw [if_neg (by omega)]; done) | (rw [show okQ (vw S) (M1 44) = false by assumption, if_neg (by decide)] at PD; rw [if_pos PD]; done)
              · unfold sPlan; rw [if_pos (by omega), if_neg K3.2.1]; exact ⟨K0.1, K0.2.1⟩
        · refine rr_aload0 (pc := 77) B dX8_plan_77 ?_
          refine rr_getR (pc := 78) B dX8_plan_78 fl_8_63 or_8_8 ?_
          refine rr_iload3 (pc := 81) B dX8_plan_81 ?_
          refine rr_aload0 (pc := 82) B dX8_plan_82 ?_
          refine rr_getR (pc := 83) B dX8_plan_83 fl_8_59 or_8_7 ?_
          refine rr_getR (pc := 86) B dX8_plan_86 fl_8_168 or_6_0 ?_
          refine rr_iload1 (pc := 89) B dX8_plan_89 ?_
          refine rr_aaload (k2 := 34 + Int.toNat s) (pc := 90) B dX8_plan_90 (ax_shp_33) (by decide) (by omega) (rows_at (by omega)) ?_
          refine rr_iload3 (pc := 91) B dX8_plan_91 ?_
          refine rr_ialoadE (pc := 92) B dX8_plan_92 (sa_rows (by omega)) (by omega) (RC_row K0.1 (s := s) (i := d) (by omega) (by omega)) (fun b3 => ?_)
          refine rr_iastore (pc := 93) B dX8_plan_93 sa_44 (by omega) (by omega) ?_
          refine rr_iinc3 (z := 1) (pc := 94) B dX8_plan_94 rfl ?_
          refine rr_goto 66 (pc := 97) B dX8_plan_97 (by decide) ?_
          refine ih.1 _ _ ?_ ?_ ?_ ?_ ?_
          · exact ⟨RC_44 K0.1, mo_m K0.2.1 (by decide), K0.2.2⟩
          · omega
          · intro e a b
            by_cases q : e = d
            · subst q; rw [ms_at]
            · rw [ms_off q]; exact K2 e a (by omega)
          · exact K3
          · omega
  refine rr_iload1 (pc := 0) B dX8_plan_0 ?_
  refine rc_SI1 (pc := 1) B dX8_plan_1 st_X6_isNumber lk_8_151 (ct_X6_isNumber _ _ _  (by first | exact H0 | exact H1 | exact H2 | omega)) (Nat.le_of_ble_eq_true rfl) (Nat.le_of_ble_eq_true rfl) ?_
  refine rr_if_eqB 15 (pc := 4) B dX8_plan_4 (by decide) (fun b1 => ?_) (fun b1 => ?_)
  · replace b1 := of_decide_eq_false b1
    refine rr_bipush (z := (-2)) (pc := 15) B dX8_plan_15 (by decide) ?_
    refine rr_ireturn (pc := 17) B Br dX8_plan_17 ⟨congrArg (fun z => some (aI z)) ?_, ?_⟩
    · unfold vPlan; rw [if_neg (by omega)]
    · unfold sPlan; rw [if_neg (by omega)]; exact ⟨H0, mo_r M⟩
  · replace b1 := of_decide_eq_true b1
    refine rr_iload2 (pc := 7) B dX8_plan_7 ?_
    refine rr_iconst (z := 2) (pc := 8) B dX8_plan_8 ?_
    refine rc_SI2 (pc := 9) B dX8_plan_9 st_X8_within lk_8_74 (ct_X8_within _ _ _ _  (by first | exact H0 | exact H1 | exact H2 | omega)) (Nat.le_of_ble_eq_true rfl) (Nat.le_of_ble_eq_true rfl) ?_
    refine rr_if_neB 18 (pc := 12) B dX8_plan_12 (by decide) (fun b2 => ?_) (fun b2 => ?_)
    · replace b2 := of_decide_eq_true b2
      refine rr_aload0 (pc := 18) B dX8_plan_18 ?_
      refine rr_getR (pc := 19) B dX8_plan_19 fl_8_59 or_8_7 ?_
      refine rr_iload1 (pc := 22) B dX8_plan_22 ?_
      refine rc_VI1 (pc := 23) B dX8_plan_23 vm_X6_isLost lk_8_154 so_6 rfl (ct_X6_isLost _ _ _  (by first | exact H0 | exact H1 | exact H2 | omega)) (Nat.le_of_ble_eq_true rfl) (Nat.le_of_ble_eq_true rfl) ?_
      refine rr_if_eqB 38 (pc := 26) B dX8_plan_26 (by decide) (fun b3 => ?_) (fun b3 => ?_)
      · replace b3 := of_decide_eq_false b3
        refine rr_aload0 (pc := 38) B dX8_plan_38 ?_
        refine rc_VVR0 (pc := 39) B dX8_plan_39 vm_X8_reckonOffers lk_8_175 so_8 rfl (ct_X8_reckonOffers _ _  _ (by first | exact H0 | exact H1 | exact H2) (by first | exact H0 | exact H1 | exact H2) (by first | exact H0 | exact H1 | exact H2)) (Nat.le_of_ble_eq_true rfl) (Nat.le_of_ble_eq_true rfl) (fun Mb4 b4 => ?_)
        refine rr_aload0 (pc := 42) B dX8_plan_42 ?_
        refine rr_getR (pc := 43) B dX8_plan_43 fl_8_59 or_8_7 ?_
        refine rr_getR (pc := 46) B dX8_plan_46 fl_8_160 or_6_2 ?_
        refine rr_iload1 (pc := 49) B dX8_plan_49 ?_
        refine rr_ialoadE (pc := 50) B dX8_plan_50 sa_39 (by omega) ((RC_70 H2 b4.1 (s := s) (by omega)).2.2) (fun b5 => ?_)
        refine rr_aload0 (pc := 51) B dX8_plan_51 ?_
        refine rr_getR (pc := 52) B dX8_plan_52 fl_8_27 or_8_2 ?_
        refine rr_getIE (pc := 55) B dX8_plan_55 fl_8_201 ob_0_6 ((show Mb4 0 6 = vw S 9 2 from b4.1.1.1.1.2.1)) (fun b6 => ?_)
        refine rr_icmp_ge 64 (pc := 58) B dX8_plan_58 (by decide) (by omega) (fun b7 => ?_) (fun b7 => ?_)
        · refine rr_iconst (z := 0) (pc := 64) B dX8_plan_64 ?_
          refine rr_istore3 (pc := 65) B dX8_plan_65 rfl ?_
          refine (L _).1 _ _ ?_ ?_ ?_ ?_ (Nat.lt_succ_self _)
          · exact b4
          · omega
          · intro e a b; omega
          · exact ⟨by omega, (fun q => b3 ((RC_70 H2 H0 (s := s) (by omega)).1.mpr q)), by omega, by omega⟩
        · refine rr_bipush (z := (-3)) (pc := 61) B dX8_plan_61 (by decide) ?_
          refine rr_ireturn (pc := 63) B Br dX8_plan_63 ⟨congrArg (fun z => some (aI z)) ?_, ?_⟩
          · unfold vPlan; rw [if_pos (by omega), if_neg (fun q => b3 ((RC_70 H2 H0 (s := s) (by omega)).1.mpr q))]; unfold plO; rw [if_pos (by omega)]
          · unfold sPlan; rw [if_pos (by omega), if_neg (fun q => b3 ((RC_70 H2 H0 (s := s) (by omega)).1.mpr q))]; exact ⟨b4.1, b4.2.1⟩
      · replace b3 := of_decide_eq_true b3
        refine rr_aload0 (pc := 29) B dX8_plan_29 ?_
        refine rr_getR (pc := 30) B dX8_plan_30 fl_8_59 or_8_7 ?_
        refine rr_iconst (z := 1) (pc := 33) B dX8_plan_33 ?_
        refine rc_VI1 (pc := 34) B dX8_plan_34 vm_X6_tell lk_8_157 so_6 rfl (ct_X6_tell _ _ _  (by first | exact H0 | exact H1 | exact H2 | omega)) (Nat.le_of_ble_eq_true rfl) (Nat.le_of_ble_eq_true rfl) ?_
        refine rr_ireturn (pc := 37) B Br dX8_plan_37 ⟨congrArg (fun z => some (aI z)) ?_, ?_⟩
        · unfold vPlan; rw [if_pos (by omega), if_pos ((RC_70 H2 H0 (s := s) (by omega)).1.mp b3)]
        · unfold sPlan; rw [if_pos (by omega), if_pos ((RC_70 H2 H0 (s := s) (by omega)).1.mp b3)]; exact ⟨RC_mee 1 H0, mo_m (mo_r M) (by decide)⟩
    · replace b2 := of_decide_eq_false b2
      refine rr_bipush (z := (-2)) (pc := 15) B dX8_plan_15 (by decide) ?_
      refine rr_ireturn (pc := 17) B Br dX8_plan_17 ⟨congrArg (fun z => some (aI z)) ?_, ?_⟩
      · unfold vPlan; rw [if_neg (by omega)]
      · unfold sPlan; rw [if_neg (by omega)]; exact ⟨H0, mo_r M⟩
