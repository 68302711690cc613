set_option maxHeartbeats 4000000 in
set_option maxRecDepth 100000 in
theorem ct_X8_read (g : ax_G) (M : ax_M) (s : Int) (S : ax_M) (H0 : RC S M) (H1 : SI S) (H2 : SR S) (H3 : -2147483648 ≤ s ∧ s ≤ 2147483647) : CT g md_X8_read 2 [aR 8, aI s] M (pIR (vRead S s) (fun M2 => RC (sRead S s) M2 ∧ mo M M2)) := by
  refine ct_intro 3 rfl rfl ?_
  intro X hg B Br
  subst hg
  show AW X 0 [some (aR 8), some (aI s), none, none, none] [] M
  refine rr_rg (fun G0 => ?_)
  have Y72 : 0 ≤ S 72 s ∧ S 72 s ≤ 60 := H2 72 s rfl
  have L : ∀ nn : Nat, (∀ (M1 : ax_M) (m h : Int) (w4 : Option ax_V), ((m = 8 ∨ m = S 72 s) ∧ m ≤ 8 ∧ m ≤ S 72 s) → (RC (rdS S s h) M1 ∧ mo M M1 ∧ M1 8 9 = 1 ∧ M1 8 10 = 1) → (0 ≤ h ∧ h ≤ m) → (∀ j, 0 ≤ j → j < h → rdOk S s j = true) → ((0 ≤ s ∧ s ≤ 3) ∧ S 70 s ≠ 0) → ((8 - h).toNat) < nn → AW X 51 [some (aR 8), some (aI s), some (aI m), some (aI h), w4] [] M1) ∧ True := by
    intro nn
    induction nn with
    | zero => exact ⟨by intros; omega, trivial⟩
    | succ nn ih =>
      refine ⟨?_, trivial⟩
      · intro M1 m h w4 K0 K1 K2 K3 K4 hm
        refine rr_rg (fun G1 => ?_)
        refine rr_iload3 (pc := 51) B dX8_read_51 ?_
        refine rr_iload2 (pc := 52) B dX8_read_52 ?_
        refine rr_icmp_ge 97 (pc := 53) B dX8_read_53 (by decide) (by omega) (fun b1 => ?_) (fun b1 => ?_)
        · refine rr_iload2 (pc := 97) B dX8_read_97 ?_
          refine rr_ireturn (pc := 98) B Br dX8_read_98 ⟨congrArg (fun z => some (aI z)) ?_, ?_⟩
          · unfold vRead; rw [if_pos K4.1, if_neg K4.2, rdN_eq K2.1 (by omega) K3 (by first | (left; omega) | (rcases K0.1 with q | q; left; omega; right; exact rdOk_f (by omega)))]; omega
          · unfold sRead; rw [if_pos K4.1, if_neg K4.2, rdN_eq K2.1 (by omega) K3 (by first | (left; omega) | (rcases K0.1 with q | q; left; omega; right; exact rdOk_f (by omega)))]; exact ⟨K1.1, K1.2.1⟩
        · refine rr_aload0 (pc := 56) B dX8_read_56 ?_
          refine rr_getR (pc := 57) B dX8_read_57 fl_8_59 or_8_7 ?_
          refine rr_getR (pc := 60) B dX8_read_60 fl_8_168 or_6_0 ?_
          refine rr_iload1 (pc := 63) B dX8_read_63 ?_
          refine rr_aaload (k2 := 34 + Int.toNat s) (pc := 64) B dX8_read_64 (ax_shp_33) (by decide) (by omega) (rows_at (by omega)) ?_
          refine rr_iload3 (pc := 65) B dX8_read_65 ?_
          refine rr_ialoadE (pc := 66) B dX8_read_66 (sa_rows (by omega)) (by omega) ((RC_row K1.1 (s := s) (i := h) (by omega) (by omega)).trans (congrFun (rdS_ne K2.1 (by decide)) _)) (fun b2 => ?_)
          refine rr_istore4 (pc := 67) B dX8_read_67 rfl ?_
          refine rr_iload4 (pc := 69) B dX8_read_69 ?_
          refine rr_iconst (z := 1) (pc := 71) B dX8_read_71 ?_
          refine rc_SI2 (pc := 72) B dX8_read_72 st_X8_within lk_8_74 (ct_X8_within _ _ _ _  (by omega)) (Nat.le_of_ble_eq_true rfl) (Nat.le_of_ble_eq_true rfl) ?_
          refine rr_if_neB 80 (pc := 75) B dX8_read_75 (by decide) (fun b3 => ?_) (fun b3 => ?_)
          · replace b3 := of_decide_eq_true b3
            refine rr_aload0 (pc := 80) B dX8_read_80 ?_
            refine rr_getR (pc := 81) B dX8_read_81 fl_8_41 or_8_4 ?_
            refine rr_getR (pc := 84) B dX8_read_84 fl_8_172 or_1_1 ?_
            refine rr_iload3 (pc := 87) B dX8_read_87 ?_
            refine rr_iload4 (pc := 88) B dX8_read_88 ?_
            refine rr_iastore (pc := 90) B dX8_read_90 sa_16 (by omega) (by omega) ?_
            refine rr_iinc3 (z := 1) (pc := 91) B dX8_read_91 rfl ?_
            refine rr_goto 51 (pc := 94) B dX8_read_94 (by decide) ?_
            refine ih.1 _ _ _ _ ?_ ?_ ?_ ?_ ?_ ?_
            · first | exact K0 | (try split) <;> omega
            · rw [rd_s S s K2.1]; exact ⟨RC_we2 K1.1 K1.2.2, mo_m K1.2.1 (by decide), K1.2.2⟩
            · omega
            · intro j a b
              rcases Int.lt_or_eq_of_le (show j ≤ h by omega) with q | q
              · exact K3 j a q
              · rw [q]; exact decide_eq_true (by omega)
            · exact K4
            · omega
          · replace b3 := of_decide_eq_false b3
            refine rr_iload3 (pc := 78) B dX8_read_78 ?_
            refine rr_ireturn (pc := 79) B Br dX8_read_79 ⟨congrArg (fun z => some (aI z)) ?_, ?_⟩
            · unfold vRead; rw [if_pos K4.1, if_neg K4.2, rdN_eq K2.1 (by omega) K3 (Or.inr (rdOk_f (by omega)))]
            · unfold sRead; rw [if_pos K4.1, if_neg K4.2, rdN_eq K2.1 (by omega) K3 (Or.inr (rdOk_f (by omega)))]; exact ⟨K1.1, K1.2.1⟩
  refine rr_iload1 (pc := 0) B dX8_read_0 ?_
  refine rc_SI1 (pc := 1) B dX8_read_1 st_X6_isNumber lk_8_151 (ct_X6_isNumber _ _ _  (by omega)) (Nat.le_of_ble_eq_true rfl) (Nat.le_of_ble_eq_true rfl) ?_
  refine rr_if_neB 10 (pc := 4) B dX8_read_4 (by decide) (fun b1 => ?_) (fun b1 => ?_)
  · replace b1 := of_decide_eq_true b1
    refine rr_aload0 (pc := 10) B dX8_read_10 ?_
    refine rr_getR (pc := 11) B dX8_read_11 fl_8_59 or_8_7 ?_
    refine rr_iload1 (pc := 14) B dX8_read_14 ?_
    refine rc_VI1 (pc := 15) B dX8_read_15 vm_X6_isLost lk_8_154 so_6 rfl (ct_X6_isLost _ _ _  (by omega)) (Nat.le_of_ble_eq_true rfl) (Nat.le_of_ble_eq_true rfl) ?_
    refine rr_if_eqB 30 (pc := 18) B dX8_read_18 (by decide) (fun b2 => ?_) (fun b2 => ?_)
    · replace b2 := of_decide_eq_false b2
      refine rr_aload0 (pc := 30) B dX8_read_30 ?_
      refine rc_VV0 (pc := 31) B dX8_read_31 vm_X8_nightChanged lk_8_87 so_8 rfl (ct_X8_nightChanged _ _   ) (Nat.le_of_ble_eq_true rfl) (Nat.le_of_ble_eq_true rfl) ?_
      refine rr_bipush (z := 8) (pc := 34) B dX8_read_34 (by decide) ?_
      refine rr_aload0 (pc := 36) B dX8_read_36 ?_
      refine rr_getR (pc := 37) B dX8_read_37 fl_8_59 or_8_7 ?_
      refine rr_getR (pc := 40) B dX8_read_40 fl_8_160 or_6_2 ?_
      refine rr_iload1 (pc := 43) B dX8_read_43 ?_
      refine rr_ialoadE (pc := 44) B dX8_read_44 sa_39 (by omega) ((show nc M 39 s = S 72 s from (RC_70 H2 H0 (s := s) (by omega)).2.2)) (fun b3 => ?_)
      refine rr_min (pc := 45) B dX8_read_45 (by decide) lk_8_163 (by omega) (Nat.le_of_ble_eq_true rfl) ?_
      refine rr_istore2 (pc := 48) B dX8_read_48 rfl ?_
      refine rr_iconst (z := 0) (pc := 49) B dX8_read_49 ?_
      refine rr_istore3 (pc := 50) B dX8_read_50 rfl ?_
      refine (L _).1 _ _ _ _ ?_ ?_ ?_ ?_ ?_ (Nat.lt_succ_self _)
      · first | exact K0 | (try split) <;> omega
      · exact ⟨RC_nc H0, mo_nc M, rfl, rfl⟩
      · first | omega | (split <;> omega) | (constructor; omega; split <;> omega)
      · intro j a b; omega
      · exact ⟨by omega, fun q => b2 ((RC_70 H2 H0 (s := s) (by omega)).1.mpr q)⟩
    · replace b2 := of_decide_eq_true b2
      refine rr_aload0 (pc := 21) B dX8_read_21 ?_
      refine rr_getR (pc := 22) B dX8_read_22 fl_8_59 or_8_7 ?_
      refine rr_iconst (z := 1) (pc := 25) B dX8_read_25 ?_
      refine rc_VI1 (pc := 26) B dX8_read_26 vm_X6_tell lk_8_157 so_6 rfl (ct_X6_tell _ _ _  (by omega)) (Nat.le_of_ble_eq_true rfl) (Nat.le_of_ble_eq_true rfl) ?_
      refine rr_ireturn (pc := 29) B Br dX8_read_29 ⟨congrArg (fun z => some (aI z)) ?_, ?_⟩
      · unfold vRead; rw [if_pos (by omega), if_pos ((RC_70 H2 H0 (s := s) (by omega)).1.mp b2)]
      · unfold sRead; rw [if_pos (by omega), if_pos ((RC_70 H2 H0 (s := s) (by omega)).1.mp b2)]; exact ⟨RC_mee 1 H0, mo_m (mo_r M) (by decide)⟩
  · replace b1 := of_decide_eq_false b1
    refine rr_bipush (z := (-2)) (pc := 7) B dX8_read_7 (by decide) ?_
    refine rr_ireturn (pc := 9) B Br dX8_read_9 ⟨congrArg (fun z => some (aI z)) ?_, ?_⟩
    · unfold vRead; rw [if_neg (by omega)]
    · unfold sRead; rw [if_neg (by omega)]; exact ⟨H0, mo_r M⟩
set_option maxHeartbeats 4000000 in
set_option maxRecDepth 100000 in
theorem ct_X8_write (g : ax_G) (M : ax_M) (s : Int) (S : ax_M) (H0 : RC S M) (H1 : SI S) (H2 : SR S) (H3 : -2147483648 ≤ s ∧ s ≤ 2147483647) : CT g md_X8_write 5 [aR 8, aI s] M (pIR (vWrit S s) (fun M2 => RC (sWrit S s) M2 ∧ mo M M2)) := by
  refine ct_intro 2 rfl rfl ?_
  intro X hg B Br
  subst hg
  show AW X 0 [some (aR 8), some (aI s), none, none] [] M
  refine rr_rg (fun G0 => ?_)
  have Y72 : 0 ≤ S 72 s ∧ S 72 s ≤ 60 := H2 72 s rfl
  have N8 := vw_n8 H2
  have L : ∀ nn : Nat, (∀ (M1 : ax_M) (m d : Int), (m = wrN S s ∧ m ≤ 8 ∧ m ≤ S 72 s ∧ m ≤ vw S 9 2) → (RC (wrS S s d) M1 ∧ mo M M1) → (0 ≤ d ∧ d ≤ m) → (∀ e, 0 ≤ e → e < vw S 9 2 → M1 26 e = mstR (vw S) e) → ((0 ≤ s ∧ s ≤ 3) ∧ S 70 s ≠ 0) → ((8 - d).toNat) < nn → AW X 56 [some (aR 8), some (aI s), some (aI m), some (aI d)] [] M1) ∧ True := by
    intro nn
    induction nn with
    | zero => exact ⟨by intros; omega, trivial⟩
    | succ nn ih =>
      refine ⟨?_, trivial⟩
      · intro M1 m d K0 K1 K2 K3 K4 hm
        refine rr_rg (fun G1 => ?_)
        refine rr_iload3 (pc := 56) B dX8_write_56 ?_
        refine rr_iload2 (pc := 57) B dX8_write_57 ?_
        refine rr_icmp_ge 85 (pc := 58) B dX8_write_58 (by decide) (by omega) (fun b1 => ?_) (fun b1 => ?_)
        · refine rr_iload2 (pc := 85) B dX8_write_85 ?_
          refine rr_ireturn (pc := 86) B Br dX8_write_86 ⟨congrArg (fun z => some (aI z)) ?_, ?_⟩
          · unfold vWrit; rw [if_pos K4.1, if_neg K4.2]; exact K0.1
          · unfold sWrit; rw [if_pos K4.1, if_neg K4.2, ← K0.1, show m = d by omega]; exact K1
        · refine rr_aload0 (pc := 61) B dX8_write_61 ?_
          refine rr_getR (pc := 62) B dX8_write_62 fl_8_59 or_8_7 ?_
          refine rr_iload1 (pc := 65) B dX8_write_65 ?_
          refine rr_iload3 (pc := 66) B dX8_write_66 ?_
          refine rr_aload0 (pc := 67) B dX8_write_67 ?_
          refine rr_getR (pc := 68) B dX8_write_68 fl_8_10 or_8_0 ?_
          refine rr_getR (pc := 71) B dX8_write_71 fl_8_198 or_4_0 ?_
          refine rr_iload3 (pc := 74) B dX8_write_74 ?_
          refine rr_ialoadE (pc := 75) B dX8_write_75 sa_26 (by omega) (K3 d (by omega) (by omega)) (fun b2 => ?_)
          refine rc_VV3 (pc := 76) B dX8_write_76 vm_X6_store lk_8_285 so_6 rfl (ct_X6_store _ _ _ _ _  (by omega) (by omega) (by omega)) (Nat.le_of_ble_eq_true rfl) (Nat.le_of_ble_eq_true rfl) ?_
          refine rr_iinc3 (z := 1) (pc := 79) B dX8_write_79 rfl ?_
          refine rr_goto 56 (pc := 82) B dX8_write_82 (by decide) ?_
          refine ih.1 _ _ _ ?_ ?_ ?_ ?_ ?_ ?_
          · exact K0
          · rw [wr_s S s K2.1]; exact ⟨RC_store (by omega) (by omega) (by rw [congrFun (wrS_ne K2.1 (by decide)) s]; exact K4.2) K1.1, mo_m K1.2 (by omega)⟩
          · omega
          · intro e a b; rw [ms_k (by omega)]; exact K3 e a b
          · exact K4
          · omega
  refine rr_iload1 (pc := 0) B dX8_write_0 ?_
  refine rc_SI1 (pc := 1) B dX8_write_1 st_X6_isNumber lk_8_151 (ct_X6_isNumber _ _ _  (by first | exact H0 | exact H1 | exact H2 | omega)) (Nat.le_of_ble_eq_true rfl) (Nat.le_of_ble_eq_true rfl) ?_
  refine rr_if_neB 10 (pc := 4) B dX8_write_4 (by decide) (fun b1 => ?_) (fun b1 => ?_)
  · replace b1 := of_decide_eq_true b1
    refine rr_aload0 (pc := 10) B dX8_write_10 ?_
    refine rr_getR (pc := 11) B dX8_write_11 fl_8_59 or_8_7 ?_
    refine rr_iload1 (pc := 14) B dX8_write_14 ?_
    refine rc_VI1 (pc := 15) B dX8_write_15 vm_X6_isLost lk_8_154 so_6 rfl (ct_X6_isLost _ _ _  (by first | exact H0 | exact H1 | exact H2 | omega)) (Nat.le_of_ble_eq_true rfl) (Nat.le_of_ble_eq_true rfl) ?_
    refine rr_if_eqB 30 (pc := 18) B dX8_write_18 (by decide) (fun b2 => ?_) (fun b2 => ?_)
    · replace b2 := of_decide_eq_false b2
      refine rr_aload0 (pc := 30) B dX8_write_30 ?_
      refine rc_VVR0 (pc := 31) B dX8_write_31 vm_X8_reckonPlan lk_8_190 so_8 rfl (ct_X8_reckonPlan _ _  _ (by first | exact H0 | exact H1 | exact H2 | omega) (by first | exact H0 | exact H1 | exact H2 | omega) (by first | exact H0 | exact H1 | exact H2 | omega)) (Nat.le_of_ble_eq_true rfl) (Nat.le_of_ble_eq_true rfl) (fun Mb3 b3 => ?_)
      refine rr_aload0 (pc := 34) B dX8_write_34 ?_
      refine rr_getR (pc := 35) B dX8_write_35 fl_8_59 or_8_7 ?_
      refine rr_getR (pc := 38) B dX8_write_38 fl_8_160 or_6_2 ?_
      refine rr_iload1 (pc := 41) B dX8_write_41 ?_
      refine rr_ialoadE (pc := 42) B dX8_write_42 sa_39 (by omega) ((RC_70 H2 b3.1 (s := s) (by omega)).2.2) (fun b4 => ?_)
      refine rr_aload0 (pc := 43) B dX8_write_43 ?_
      refine rr_getR (pc := 44) B dX8_write_44 fl_8_27 or_8_2 ?_
      refine rr_getIE (pc := 47) B dX8_write_47 fl_8_201 ob_0_6 ((show Mb3 0 6 = vw S 9 2 from b3.1.1.1.1.2.1)) (fun b5 => ?_)
      refine rr_min (pc := 50) B dX8_write_50 (by decide) lk_8_163 (by omega) (Nat.le_of_ble_eq_true rfl) ?_
      refine rr_istore2 (pc := 53) B dX8_write_53 rfl ?_
      refine rr_iconst (z := 0) (pc := 54) B dX8_write_54 ?_
      refine rr_istore3 (pc := 55) B dX8_write_55 rfl ?_
      refine (L _).1 _ _ _ ?_ ?_ ?_ ?_ ?_ (Nat.lt_succ_self _)
      · unfold wrN; repeat' split
        all_goals omega
      · exact ⟨b3.1, b3.2.1⟩
      · repeat' split
        all_goals omega
      · exact (RC_PL b3.1 b3.2.2.2).2.2
      · exact ⟨by omega, fun q => b2 ((RC_70 H2 H0 (s := s) (by omega)).1.mpr q)⟩
    · replace b2 := of_decide_eq_true b2
      refine rr_aload0 (pc := 21) B dX8_write_21 ?_
      refine rr_getR (pc := 22) B dX8_write_22 fl_8_59 or_8_7 ?_
      refine rr_iconst (z := 1) (pc := 25) B dX8_write_25 ?_
      refine rc_VI1 (pc := 26) B dX8_write_26 vm_X6_tell lk_8_157 so_6 rfl (ct_X6_tell _ _ _  (by first | exact H0 | exact H1 | exact H2 | omega)) (Nat.le_of_ble_eq_true rfl) (Nat.le_of_ble_eq_true rfl) ?_
      refine rr_ireturn (pc := 29) B Br dX8_write_29 ⟨congrArg (fun z => some (aI z)) ?_, ?_⟩
      · unfold vWrit; rw [if_pos (by omega), if_pos ((RC_70 H2 H0 (s := s) (by omega)).1.mp b2)]
      · unfold sWrit; rw [if_pos (by omega), if_pos ((RC_70 H2 H0 (s := s) (by omega)).1.mp b2)]; exact ⟨RC_mee 1 H0, mo_m (mo_r M) (by decide)⟩
  · replace b1 := of_decide_eq_false b1
    refine rr_bipush (z := (-2)) (pc := 7) B dX8_write_7 (by decide) ?_
    refine rr_ireturn (pc := 9) B Br dX8_write_9 ⟨congrArg (fun z => some (aI z)) ?_, ?_⟩
    · unfold vWrit; rw [if_neg (by omega)]
    · unfold sWrit; rw [if_neg (by omega)]; exact ⟨H0, mo_r M⟩
