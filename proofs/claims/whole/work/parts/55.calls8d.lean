set_option maxHeartbeats 4000000 in
set_option maxRecDepth 100000 in
theorem ct_X8_count (g : ax_G) (M : ax_M) (w : Int) (S : ax_M) (H0 : RC S M) (H1 : SI S) (H2 : SR S) (H3 : -2147483648 ≤ w ∧ w ≤ 2147483647) : CT g md_X8_count 2 [aR 8, aI w] M (pIR (vCount S w) (fun M2 => RC (S) M2 ∧ mo M M2)) := by
  refine ct_intro 0 rfl rfl ?_
  intro X hg B Br
  subst hg
  show AW X 0 [some (aR 8), some (aI w)] [] M
  refine rr_rg (fun G0 => ?_)
  have E5 : M 0 5 = S 45 0 := H0.1.1.1.1.trans (dq_5 (t0 S) H2.n0.1)
  have E0 : M 5 0 = S 45 1 := H0.1.2.1.1.trans (rq_0 (t1 S) H2.n1.1)
  have E6 : M 5 6 ≤ S 45 1 := by have := (rq_par (t1 S) H2.n1.1).1.2; rw [show M 5 6 = rq (t1 S) (S 45 1) 5 6 from H0.1.2.1.2.2.2.1]; exact this
  have I1 := H1.1
  have N0 := H2.n0
  have N1 := H2.n1
  have E3 : M 3 0 = S 9 30 := H0.2.2.1.1
  have G3 := G0.at ob_3_0.2.1
  have E7 : M 7 0 = S 9 26 := H0.2.2.2.1.1
  have G7 := G0.at ob_7_0.2.1
  have EN : M 0 6 = vw S 9 2 := H0.1.1.1.2.1
  have N8 := vw_n8 H2
  have P8 := p2_le (a := vw S 9 2) (b := 8) (by omega)
  have P3 : p2 8 = 256 := rfl
  have P1 := p2_pos (vw S 9 2)
  have A := RC_ag H2 H0
  refine rr_iload1 (pc := 0) B dX8_count_0 ?_
  rcases (show w = 0 ∨ w = 1 ∨ w = 2 ∨ w = 3 ∨ w = 4 ∨ w = 5 ∨ w = 6 ∨ w = 7 ∨ w = 8 ∨ (w < 0 ∨ 8 < w) by omega) with b1 | b1 | b1 | b1 | b1 | b1 | b1 | b1 | b1 | b1
  · refine rr_tabAt 0 52 (pc := 1) B dX8_count_1 b1 (by decide) rfl (by decide) ?_
    refine rr_aload0 (pc := 52) B dX8_count_52 ?_
    refine rr_getR (pc := 53) B dX8_count_53 fl_8_27 or_8_2 ?_
    refine rr_getIE (pc := 56) B dX8_count_56 fl_8_201 ob_0_6 (EN) (fun b2 => ?_)
    refine rr_ireturn (pc := 59) B Br dX8_count_59 ⟨congrArg (fun z => some (aI z)) ?_, ?_⟩
    · unfold vCount; repeat (first | rw [if_pos (by omega)] | rw [if_neg (by omega)])
      try rfl
    · exact ⟨H0, mo_r M⟩
  · refine rr_tabAt 1 60 (pc := 1) B dX8_count_1 b1 (by decide) rfl (by decide) ?_
    refine rr_aload0 (pc := 60) B dX8_count_60 ?_
    refine rr_getR (pc := 61) B dX8_count_61 fl_8_27 or_8_2 ?_
    refine rr_getIE (pc := 64) B dX8_count_64 fl_8_78 ob_0_5 (E5) (fun b2 => ?_)
    refine rr_ireturn (pc := 67) B Br dX8_count_67 ⟨congrArg (fun z => some (aI z)) ?_, ?_⟩
    · unfold vCount; repeat (first | rw [if_pos (by omega)] | rw [if_neg (by omega)])
      try rfl
    · exact ⟨H0, mo_r M⟩
  · refine rr_tabAt 2 68 (pc := 1) B dX8_count_1 b1 (by decide) rfl (by decide) ?_
    refine rr_aload0 (pc := 68) B dX8_count_68 ?_
    refine rr_getR (pc := 69) B dX8_count_69 fl_8_34 or_8_3 ?_
    refine rr_getIE (pc := 72) B dX8_count_72 fl_8_84 ob_5_0 (E0) (fun b2 => ?_)
    refine rr_ireturn (pc := 75) B Br dX8_count_75 ⟨congrArg (fun z => some (aI z)) ?_, ?_⟩
    · unfold vCount; repeat (first | rw [if_pos (by omega)] | rw [if_neg (by omega)])
      try rfl
    · exact ⟨H0, mo_r M⟩
  · refine rr_tabAt 3 76 (pc := 1) B dX8_count_1 b1 (by decide) rfl (by decide) ?_
    refine rr_aload0 (pc := 76) B dX8_count_76 ?_
    refine rr_getR (pc := 77) B dX8_count_77 fl_8_34 or_8_3 ?_
    refine rr_getIE (pc := 80) B dX8_count_80 fl_8_303 ob_5_1 ((H0.1.2.1.2.1 : M 5 1 = vw S 9 8)) (fun b2 => ?_)
    refine rr_ireturn (pc := 83) B Br dX8_count_83 ⟨congrArg (fun z => some (aI z)) ?_, ?_⟩
    · unfold vCount; repeat (first | rw [if_pos (by omega)] | rw [if_neg (by omega)])
      try rfl
    · exact ⟨H0, mo_r M⟩
  · refine rr_tabAt 4 84 (pc := 1) B dX8_count_1 b1 (by decide) rfl (by decide) ?_
    refine rr_aload0 (pc := 84) B dX8_count_84 ?_
    refine rr_getR (pc := 85) B dX8_count_85 fl_8_45 or_8_5 ?_
    refine rr_getIE (pc := 88) B dX8_count_88 fl_8_244 ob_7_0 (E7) (fun b2 => ?_)
    refine rr_ireturn (pc := 91) B Br dX8_count_91 ⟨congrArg (fun z => some (aI z)) ?_, ?_⟩
    · unfold vCount; repeat (first | rw [if_pos (by omega)] | rw [if_neg (by omega)])
      try rfl
    · exact ⟨H0, mo_r M⟩
  · refine rr_tabAt 5 92 (pc := 1) B dX8_count_1 b1 (by decide) rfl (by decide) ?_
    refine rr_aload0 (pc := 92) B dX8_count_92 ?_
    refine rr_getR (pc := 93) B dX8_count_93 fl_8_52 or_8_6 ?_
    refine rr_getIE (pc := 96) B dX8_count_96 fl_8_306 ob_3_0 (E3) (fun b2 => ?_)
    refine rr_ireturn (pc := 99) B Br dX8_count_99 ⟨congrArg (fun z => some (aI z)) ?_, ?_⟩
    · unfold vCount; repeat (first | rw [if_pos (by omega)] | rw [if_neg (by omega)])
      try rfl
    · exact ⟨H0, mo_r M⟩
  · refine rr_tabAt 6 100 (pc := 1) B dX8_count_1 b1 (by decide) rfl (by decide) ?_
    refine rr_aload0 (pc := 100) B dX8_count_100 ?_
    refine rr_getR (pc := 101) B dX8_count_101 fl_8_27 or_8_2 ?_
    refine rr_aload0 (pc := 104) B dX8_count_104 ?_
    refine rr_getR (pc := 105) B dX8_count_105 fl_8_27 or_8_2 ?_
    refine rc_VI0 (pc := 108) B dX8_count_108 vm_X0_allBits lk_8_261 so_0 rfl (ct_X0_allBits _ _   ) (Nat.le_of_ble_eq_true rfl) (Nat.le_of_ble_eq_true rfl) ?_
    rw [EN]
    refine rc_VI1 (pc := 111) B dX8_count_111 vm_X0_worthOf lk_8_307 so_0 rfl (ct_X0_worthOf _ _ _  (by omega)) (Nat.le_of_ble_eq_true rfl) (Nat.le_of_ble_eq_true rfl) ?_
    refine rr_ireturn (pc := 114) B Br dX8_count_114 ⟨congrArg (fun z => some (aI z)) ?_, ?_⟩
    · rw [wof_eq A]; unfold vCount; repeat (first | rw [if_pos (by omega)] | rw [if_neg (by omega)])
    · exact ⟨H0, mo_r M⟩
  · refine rr_tabAt 7 115 (pc := 1) B dX8_count_1 b1 (by decide) rfl (by decide) ?_
    refine rr_aload0 (pc := 115) B dX8_count_115 ?_
    refine rr_getR (pc := 116) B dX8_count_116 fl_8_41 or_8_4 ?_
    refine rc_VI0 (pc := 119) B dX8_count_119 vm_X1_rainyHours lk_8_310 so_1 rfl (ct_X1_rainyHours _ _   ) (Nat.le_of_ble_eq_true rfl) (Nat.le_of_ble_eq_true rfl) ?_
    refine rr_ireturn (pc := 122) B Br dX8_count_122 ⟨congrArg (fun z => some (aI z)) ?_, ?_⟩
    · rw [ra_eq H0]; unfold vCount; repeat (first | rw [if_pos (by omega)] | rw [if_neg (by omega)])
    · exact ⟨H0, mo_r M⟩
  · refine rr_tabAt 8 123 (pc := 1) B dX8_count_1 b1 (by decide) rfl (by decide) ?_
    refine rr_aload0 (pc := 123) B dX8_count_123 ?_
    refine rr_getR (pc := 124) B dX8_count_124 fl_8_59 or_8_7 ?_
    refine rr_getIE (pc := 127) B dX8_count_127 fl_8_313 ob_6_3 (H0.2.2.2.2.1.1) (fun b2 => ?_)
    refine rr_ireturn (pc := 130) B Br dX8_count_130 ⟨congrArg (fun z => some (aI z)) ?_, ?_⟩
    · unfold vCount; repeat (first | rw [if_pos (by omega)] | rw [if_neg (by omega)])
      try rfl
    · exact ⟨H0, mo_r M⟩
  · refine rr_tabOut 131 (pc := 1) B dX8_count_1 (by omega) b1 (by decide) ?_
    refine rr_bipush (z := (-2)) (pc := 131) B dX8_count_131 (by decide) ?_
    refine rr_ireturn (pc := 133) B Br dX8_count_133 ⟨congrArg (fun z => some (aI z)) ?_, ?_⟩
    · unfold vCount; repeat (first | rw [if_pos (by omega)] | rw [if_neg (by omega)])
      try rfl
    · exact ⟨H0, mo_r M⟩
set_option maxHeartbeats 4000000 in
set_option maxRecDepth 100000 in
theorem ct_X8_sparedBy (g : ax_G) (M : ax_M) (x : Int) (S : ax_M) (H0 : RC S M) (H1 : SR S) (H2 : 0 ≤ x ∧ x ≤ p2 (vw S 9 2) - 1) : CT g md_X8_sparedBy 2 [aR 8, aI x] M (pI (spV (vw S) x) (M)) := by
  refine ct_intro 0 rfl rfl ?_
  intro X hg B Br
  subst hg
  show AW X 0 [some (aR 8), some (aI x)] [] M
  refine rr_rg (fun G0 => ?_)
  have EN : M 0 6 = vw S 9 2 := H0.1.1.1.2.1
  have N8 := vw_n8 H1
  have P8 := p2_le (a := vw S 9 2) (b := 8) (by omega)
  have P3 : p2 8 = 256 := rfl
  have P1 := p2_pos (vw S 9 2)
  have A := RC_ag H1 H0
  have RCE := rc_eq H1 H0 (x := x) (by omega)
  refine rr_aload0 (pc := 0) B dX8_sparedBy_0 ?_
  refine rr_getR (pc := 1) B dX8_sparedBy_1 fl_8_27 or_8_2 ?_
  refine rr_aload0 (pc := 4) B dX8_sparedBy_4 ?_
  refine rr_getR (pc := 5) B dX8_sparedBy_5 fl_8_52 or_8_6 ?_
  refine rr_iload1 (pc := 8) B dX8_sparedBy_8 ?_
  refine rr_aload0 (pc := 9) B dX8_sparedBy_9 ?_
  refine rr_getR (pc := 10) B dX8_sparedBy_10 fl_8_27 or_8_2 ?_
  refine rc_VI0 (pc := 13) B dX8_sparedBy_13 vm_X0_allBits lk_8_261 so_0 rfl (ct_X0_allBits _ _   ) (Nat.le_of_ble_eq_true rfl) (Nat.le_of_ble_eq_true rfl) ?_
  rw [EN]
  refine rc_VI2 (pc := 16) B dX8_sparedBy_16 vm_X3_reached lk_8_376 so_3 rfl (ct_X3_reached _ _ _ _  (by omega) (by omega)) (Nat.le_of_ble_eq_true rfl) (Nat.le_of_ble_eq_true rfl) ?_
  refine rr_iload1 (pc := 19) B dX8_sparedBy_19 ?_
  refine rr_iconst (z := (-1)) (pc := 20) B dX8_sparedBy_20 ?_
  refine rr_inot (pc := 21) B dX8_sparedBy_21 ?_
  refine rr_andD (pc := 22) B dX8_sparedBy_22 (by omega) (fun b1 => ?_)
  refine rc_VI1 (pc := 23) B dX8_sparedBy_23 vm_X0_worthOf lk_8_307 so_0 rfl (ct_X0_worthOf _ _ _  (by have := nD_le (rcC M x (p2 (vw S 9 2) - 1)) x RCE.2.1; omega)) (Nat.le_of_ble_eq_true rfl) (Nat.le_of_ble_eq_true rfl) ?_
  refine rr_ireturn (pc := 26) B Br dX8_sparedBy_26 ⟨congrArg (fun z => some (aI z)) ?_, ?_⟩
  · unfold spV; rw [wof_eq A, RCE.1]
  · first | rfl | assumption
set_option maxHeartbeats 4000000 in
set_option maxRecDepth 100000 in
theorem ct_X8_spared (g : ax_G) (M : ax_M) (x : Int) (S : ax_M) (H0 : RC S M) (H1 : SI S) (H2 : SR S) (H3 : -2147483648 ≤ x ∧ x ≤ 2147483647) : CT g md_X8_spared 3 [aR 8, aI x] M (pIR (vSpar S x) (fun M2 => RC (S) M2 ∧ mo M M2)) := by
  refine ct_intro 0 rfl rfl ?_
  intro X hg B Br
  subst hg
  show AW X 0 [some (aR 8), some (aI x)] [] M
  refine rr_rg (fun G0 => ?_)
  have EN : M 0 6 = vw S 9 2 := H0.1.1.1.2.1
  have N8 := vw_n8 H2
  have P8 := p2_le (a := vw S 9 2) (b := 8) (by omega)
  have P3 : p2 8 = 256 := rfl
  have P1 := p2_pos (vw S 9 2)
  have A := RC_ag H2 H0
  refine rr_iload1 (pc := 0) B dX8_spared_0 ?_
  refine rr_aload0 (pc := 1) B dX8_spared_1 ?_
  refine rr_getR (pc := 2) B dX8_spared_2 fl_8_27 or_8_2 ?_
  refine rc_VI0 (pc := 5) B dX8_spared_5 vm_X0_allBits lk_8_261 so_0 rfl (ct_X0_allBits _ _   ) (Nat.le_of_ble_eq_true rfl) (Nat.le_of_ble_eq_true rfl) ?_
  rw [EN]
  refine rc_SI2 (pc := 8) B dX8_spared_8 st_X8_within lk_8_74 (ct_X8_within _ _ _ _  (by omega)) (Nat.le_of_ble_eq_true rfl) (Nat.le_of_ble_eq_true rfl) ?_
  refine rr_if_neB 17 (pc := 11) B dX8_spared_11 (by decide) (fun b1 => ?_) (fun b1 => ?_)
  · replace b1 := of_decide_eq_true b1
    refine rr_aload0 (pc := 17) B dX8_spared_17 ?_
    refine rr_iload1 (pc := 18) B dX8_spared_18 ?_
    refine rc_VI1 (pc := 19) B dX8_spared_19 vm_X8_sparedBy lk_8_264 so_8 rfl (ct_X8_sparedBy _ _ _ _ (by first | exact H0 | exact H2 | omega) (by first | exact H0 | exact H2 | omega) (by first | exact H0 | exact H2 | omega)) (Nat.le_of_ble_eq_true rfl) (Nat.le_of_ble_eq_true rfl) ?_
    refine rr_ireturn (pc := 22) B Br dX8_spared_22 ⟨congrArg (fun z => some (aI z)) ?_, ?_⟩
    · unfold vSpar; rw [if_pos (by omega)]
    · exact ⟨H0, mo_r M⟩
  · replace b1 := of_decide_eq_false b1
    refine rr_bipush (z := (-2)) (pc := 14) B dX8_spared_14 (by decide) ?_
    refine rr_ireturn (pc := 16) B Br dX8_spared_16 ⟨congrArg (fun z => some (aI z)) ?_, ?_⟩
    · unfold vSpar; rw [if_neg (by omega)]
    · exact ⟨H0, mo_r M⟩
set_option maxHeartbeats 4000000 in
set_option maxRecDepth 100000 in
theorem ct_X8_best (g : ax_G) (M : ax_M) (S : ax_M) (H0 : RC S M) (H1 : SI S) (H2 : SR S) : CT g md_X8_best 3 [aR 8] M (pIR (vBest S) (fun M2 => RC (S) M2 ∧ mo M M2)) := by
  refine ct_intro 4 rfl rfl ?_
  intro X hg B Br
  subst hg
  show AW X 0 [some (aR 8), none, none, none, none] [] M
  refine rr_rg (fun G0 => ?_)
  have EN : M 0 6 = vw S 9 2 := H0.1.1.1.2.1
  have N8 := vw_n8 H2
  have P8 := p2_le (a := vw S 9 2) (b := 8) (by omega)
  have P3 : p2 8 = 256 := rfl
  have P1 := p2_pos (vw S 9 2)
  have A := RC_ag H2 H0
  have W50 : ∀ d, 0 ≤ vw S 50 d ∧ vw S 50 d ≤ 9 := vw_50 H2
  have SPR : ∀ x, 0 ≤ spV (vw S) x ∧ spV (vw S) x ≤ 72 := fun x => wth_r (vw S) _ N8 (fun d _ _ => W50 d)
  have L : ∀ nn : Nat, (∀ (f g d : Int) (w4 : Option ax_V), (0 ≤ d ∧ d ≤ vw S 9 2) → (f = (beB (vw S) d).1 ∧ g = (beB (vw S) d).2) → (0 ≤ g ∧ g ≤ 81) → ((100 - d).toNat) < nn → AW X 6 [some (aR 8), some (aI f), some (aI g), some (aI d), w4] [] M) ∧ True := by
    intro nn
    induction nn with
    | zero => exact ⟨by intros; omega, trivial⟩
    | succ nn ih =>
      refine ⟨?_, trivial⟩
      · intro f g d w4 K0 K1 K2 hm
        refine rr_iload3 (pc := 6) B dX8_best_6 ?_
        refine rr_aload0 (pc := 7) B dX8_best_7 ?_
        refine rr_getR (pc := 8) B dX8_best_8 fl_8_27 or_8_2 ?_
        refine rr_getIE (pc := 11) B dX8_best_11 fl_8_201 ob_0_6 (EN) (fun b1 => ?_)
        refine rr_icmp_ge 53 (pc := 14) B dX8_best_14 (by decide) (by omega) (fun b2 => ?_) (fun b2 => ?_)
        · refine rr_iload1 (pc := 53) B dX8_best_53 ?_
          refine rr_ireturn (pc := 54) B Br dX8_best_54 ⟨congrArg (fun z => some (aI z)) ?_, ?_⟩
          · unfold vBest; rw [K1.1, show d = vw S 9 2 by omega]
          · exact ⟨H0, mo_r M⟩
        · refine rr_aload0 (pc := 17) B dX8_best_17 ?_
          refine rr_getR (pc := 18) B dX8_best_18 fl_8_27 or_8_2 ?_
          refine rr_getR (pc := 21) B dX8_best_21 fl_8_117 or_0_3 ?_
          refine rr_iload3 (pc := 24) B dX8_best_24 ?_
          refine rr_ialoadE (pc := 25) B dX8_best_25 sa_13 (by omega) ((A.2.1 _ (by omega) (by omega)).2.2.2.1) (fun b3 => ?_)
          refine rr_aload0 (pc := 26) B dX8_best_26 ?_
          refine rr_iconst (z := 1) (pc := 27) B dX8_best_27 ?_
          refine rr_iload3 (pc := 28) B dX8_best_28 ?_
          refine rr_shl1 (pc := 29) B dX8_best_29 (by omega) (fun b4 => ?_)
          refine rc_VI1 (pc := 30) B dX8_best_30 vm_X8_sparedBy lk_8_264 so_8 rfl (ct_X8_sparedBy _ _ _ _ (by first | exact H0 | exact H2 | (have q := p2_pos d; have q2 := p2_le (a := d + 1) (b := vw S 9 2) (by omega); have q3 := p2_s (k := d) (by omega); omega)) (by first | exact H0 | exact H2 | (have q := p2_pos d; have q2 := p2_le (a := d + 1) (b := vw S 9 2) (by omega); have q3 := p2_s (k := d) (by omega); omega)) (by first | exact H0 | exact H2 | (have q := p2_pos d; have q2 := p2_le (a := d + 1) (b := vw S 9 2) (by omega); have q3 := p2_s (k := d) (by omega); omega))) (Nat.le_of_ble_eq_true rfl) (Nat.le_of_ble_eq_true rfl) ?_
          refine rr_iadd (pc := 33) B dX8_best_33 ?_
          refine rr_istore4 (pc := 34) B dX8_best_34 rfl ?_
          refine rr_iload4 (pc := 36) B dX8_best_36 ?_
          refine rr_iload2 (pc := 38) B dX8_best_38 ?_
          refine rr_icmp_le 47 (pc := 39) B dX8_best_39 (by decide) (by have := W50 d; have := SPR (p2 d); omega) (fun b5 => ?_) (fun b5 => ?_)
          · refine rr_iinc3 (z := 1) (pc := 47) B dX8_best_47 rfl ?_
            refine rr_goto 6 (pc := 50) B dX8_best_50 (by decide) ?_
            refine ih.1 _ _ _ _ ?_ ?_ ?_ ?_
            · omega
            · rw [show beB (vw S) (d + 1) = beS (vw S) d (beB (vw S) d) from itI_s _ _ (by omega)]
              unfold beS; rw [← K1.2]
              first | (rw [if_pos (by omega)]; exact ⟨rfl, rfl⟩) | (rw [if_neg (by omega)]; exact K1)
            · have := W50 d; have := SPR (p2 d); omega
            · omega
          · refine rr_iload3 (pc := 42) B dX8_best_42 ?_
            refine rr_istore1 (pc := 43) B dX8_best_43 rfl ?_
            refine rr_iload4 (pc := 44) B dX8_best_44 ?_
            refine rr_istore2 (pc := 46) B dX8_best_46 rfl ?_
            refine rr_iinc3 (z := 1) (pc := 47) B dX8_best_47 rfl ?_
            refine rr_goto 6 (pc := 50) B dX8_best_50 (by decide) ?_
            refine ih.1 _ _ _ _ ?_ ?_ ?_ ?_
            · omega
            · rw [show beB (vw S) (d + 1) = beS (vw S) d (beB (vw S) d) from itI_s _ _ (by omega)]
              unfold beS; rw [← K1.2]
              first | (rw [if_pos (by omega)]; exact ⟨rfl, rfl⟩) | (rw [if_neg (by omega)]; exact K1)
            · have := W50 d; have := SPR (p2 d); omega
            · omega
  refine rr_iconst (z := (-1)) (pc := 0) B dX8_best_0 ?_
  refine rr_istore1 (pc := 1) B dX8_best_1 rfl ?_
  refine rr_iconst (z := 0) (pc := 2) B dX8_best_2 ?_
  refine rr_istore2 (pc := 3) B dX8_best_3 rfl ?_
  refine rr_iconst (z := 0) (pc := 4) B dX8_best_4 ?_
  refine rr_istore3 (pc := 5) B dX8_best_5 rfl ?_
  refine (L _).1 _ _ _ _ ?_ ?_ ?_ (Nat.lt_succ_self _)
  · omega
  · exact ⟨rfl, rfl⟩
  · omega
set_option maxHeartbeats 4000000 in
set_option maxRecDepth 100000 in
theorem ct_X8_crowd (g : ax_G) (M : ax_M) (w : Int) (S : ax_M) (H0 : RC S M) (H1 : SI S) (H2 : SR S) (H3 : -2147483648 ≤ w ∧ w ≤ 2147483647) : CT g md_X8_crowd 4 [aR 8, aI w] M (pIR (vCrowd S w) (fun M2 => RC (S) M2 ∧ mo M M2)) := by
  refine ct_intro 6 rfl rfl ?_
  intro X hg B Br
  subst hg
  show AW X 0 [some (aR 8), some (aI w), none, none, none, none, none, none] [] M
  refine rr_rg (fun G0 => ?_)
  have N8 := vw_n8 H2
  have L : ∀ nn : Nat, (∀ (M1 : ax_M) (u t g p : Int) (w6 w7 : Option ax_V), (RC S M1 ∧ mo M M1 ∧ M1 8 9 = 0) → (0 ≤ p ∧ p ≤ 8) → (u = crW (crB (vw S) (p * 8)).1 ∧ t = crT (crB (vw S) (p * 8)).1 ∧ g = (crB (vw S) (p * 8)).2) → (0 ≤ w ∧ w ≤ 2) → ((20 * (8 - p) + 19).toNat) < nn → AW X 25 [some (aR 8), some (aI w), some (aI u), some (aI t), some (aI g), some (aI p), w6, w7] [] M1) ∧ (∀ (M1 : ax_M) (u t g p h : Int) (w7 : Option ax_V), (RC S M1 ∧ mo M M1 ∧ M1 8 9 = 0) → (0 ≤ p ∧ p < 8) → (u = crW (crB (vw S) (p * 8 + h)).1 ∧ t = crT (crB (vw S) (p * 8 + h)).1 ∧ g = (crB (vw S) (p * 8 + h)).2) → (0 ≤ w ∧ w ≤ 2) → (0 ≤ h ∧ h ≤ 8) → ((20 * (8 - p) + 10 - h).toNat) < nn → AW X 35 [some (aR 8), some (aI w), some (aI u), some (aI t), some (aI g), some (aI p), some (aI h), w7] [] M1) ∧ True := by
    intro nn
    induction nn with
    | zero => exact ⟨by intros; omega, by intros; omega, trivial⟩
    | succ nn ih =>
      refine ⟨?_, ?_, trivial⟩
      · intro M1 u t g p w6 w7 K0 K1 K2 K3 hm
        refine rr_rg (fun G1 => ?_)
        refine rr_iload5 (pc := 25) B dX8_crowd_25 ?_
        refine rr_bipush (z := 8) (pc := 27) B dX8_crowd_27 (by decide) ?_
        refine rr_icmp_ge 84 (pc := 29) B dX8_crowd_29 (by decide) (by omega) (fun b1 => ?_) (fun b1 => ?_)
        · refine rr_iload1 (pc := 84) B dX8_crowd_84 ?_
          refine rr_if_ne 90 (pc := 85) B dX8_crowd_85 (by decide) (by omega) (fun b2 => ?_) (fun b2 => ?_)
          · refine rr_iload1 (pc := 90) B dX8_crowd_90 ?_
            refine rr_iconst (z := 1) (pc := 91) B dX8_crowd_91 ?_
            refine rr_icmp_ne 99 (pc := 92) B dX8_crowd_92 (by decide) (by omega) (fun b3 => ?_) (fun b3 => ?_)
            · refine rr_iload4 (pc := 99) B dX8_crowd_99 ?_
              refine rr_ireturn (pc := 101) B Br dX8_crowd_101 ⟨congrArg (fun z => some (aI z)) ?_, ?_⟩
              · unfold vCrowd crO; rw [if_pos (by omega)]
                by_cases w2 : w = 2
                · rw [if_pos w2]; first | (exfalso; omega) | (rw [K2.2.2, show p * 8 = 64 by omega])
                · rw [if_neg w2]; first | (exfalso; omega) | (rw [K2.2.1, show p * 8 = 64 by omega]; unfold crT; rcases Classical.em ((crB (vw S) 64).1 = -1) with c | c; rw [if_pos c, if_pos c]; rw [if_neg c, if_neg c, if_neg (by omega)])
              · exact ⟨K0.1, K0.2.1⟩
            · refine rr_iload3 (pc := 95) B dX8_crowd_95 ?_
              refine rr_goto 101 (pc := 96) B dX8_crowd_96 (by decide) ?_
              refine rr_ireturn (pc := 101) B Br dX8_crowd_101 ⟨congrArg (fun z => some (aI z)) ?_, ?_⟩
              · unfold vCrowd crO; rw [if_pos (by omega)]
                by_cases w2 : w = 2
                · rw [if_pos w2]; first | (exfalso; omega) | (rw [K2.2.2, show p * 8 = 64 by omega])
                · rw [if_neg w2]; first | (exfalso; omega) | (rw [K2.2.1, show p * 8 = 64 by omega]; unfold crT; rcases Classical.em ((crB (vw S) 64).1 = -1) with c | c; rw [if_pos c, if_pos c]; rw [if_neg c, if_neg c, if_neg (by omega)])
              · exact ⟨K0.1, K0.2.1⟩
          · refine rr_iload2 (pc := 88) B dX8_crowd_88 ?_
            refine rr_ireturn (pc := 89) B Br dX8_crowd_89 ⟨congrArg (fun z => some (aI z)) ?_, ?_⟩
            · unfold vCrowd crO; rw [if_pos (by omega), if_neg (by omega), K2.1, show p * 8 = 64 by omega]; unfold crW
              by_cases c : (crB (vw S) 64).1 = -1
              · rw [if_pos c, if_pos c]
              · rw [if_neg c, if_neg c, if_pos (by omega)]
            · exact ⟨K0.1, K0.2.1⟩
        · refine rr_iconst (z := 0) (pc := 32) B dX8_crowd_32 ?_
          refine rr_istore6 (pc := 33) B dX8_crowd_33 rfl ?_
          refine ih.2.1 _ _ _ _ _ _ _ ?_ ?_ ?_ ?_ ?_ ?_
          · exact K0
          · omega
          · rw [show p * 8 + 0 = p * 8 by omega]; exact K2
          · omega
          · omega
          · omega
      · intro M1 u t g p h w7 K0 K1 K2 K3 K4 hm
        refine rr_rg (fun G1 => ?_)
        have CR := crB_r (vw S) (n := p * 8 + h) (by omega) N8
        have GR : 0 ≤ g ∧ g ≤ 8 := by rw [K2.2.2]; omega
        refine rr_iload6 (pc := 35) B dX8_crowd_35 ?_
        refine rr_bipush (z := 8) (pc := 37) B dX8_crowd_37 (by decide) ?_
        refine rr_icmp_ge 78 (pc := 39) B dX8_crowd_39 (by decide) (by omega) (fun b1 => ?_) (fun b1 => ?_)
        · refine rr_iinc5 (z := 1) (pc := 78) B dX8_crowd_78 rfl ?_
          refine rr_goto 25 (pc := 81) B dX8_crowd_81 (by decide) ?_
          refine ih.1 _ _ _ _ _ _ _ ?_ ?_ ?_ ?_ ?_
          · first | exact K0 | exact b2
          · omega
          · rw [show (p + 1) * 8 = p * 8 + h by omega]; exact K2
          · omega
          · omega
        · refine rr_aload0 (pc := 42) B dX8_crowd_42 ?_
          refine rr_getR (pc := 43) B dX8_crowd_43 fl_8_20 or_8_1 ?_
          refine rr_iload5 (pc := 46) B dX8_crowd_46 ?_
          refine rr_iload6 (pc := 48) B dX8_crowd_48 ?_
          refine rc_VI2 (pc := 50) B dX8_crowd_50 vm_X2_timesAsked lk_8_214 so_2 rfl (ct_X2_timesAsked _ _ _ _ (vw S) (RC_ag H2 K0.1) (RC_RO K0.1 K0.2.2) (by omega) (by omega)) (Nat.le_of_ble_eq_true rfl) (Nat.le_of_ble_eq_true rfl) ?_
          refine rr_istore7 (pc := 53) B dX8_crowd_53 rfl ?_
          refine rr_iload7 (pc := 55) B dX8_crowd_55 ?_
          refine rr_iload4 (pc := 57) B dX8_crowd_57 ?_
          refine rr_icmp_le 72 (pc := 59) B dX8_crowd_59 (by decide) (by have := askd_r (vw S) p h N8; omega) (fun b2 => ?_) (fun b2 => ?_)
          · refine rr_iinc6 (z := 1) (pc := 72) B dX8_crowd_72 rfl ?_
            refine rr_goto 35 (pc := 75) B dX8_crowd_75 (by decide) ?_
            refine ih.2.1 _ _ _ _ _ _ _ ?_ ?_ ?_ ?_ ?_ ?_
            · exact K0
            · omega
            · rw [show p * 8 + (h + 1) = p * 8 + h + 1 by omega, show crB (vw S) (p * 8 + h + 1) = crS (vw S) (p * 8 + h) (crB (vw S) (p * 8 + h)) from itI_s _ _ (by omega), cr_s (vw S) (by omega) (by omega), ← K2.2.2]
              first | (rw [if_pos (by omega)]; unfold crW crT; rw [if_neg (by show ¬ (p * 8 + h = -1); omega), if_neg (by show ¬ (p * 8 + h = -1); omega)]; exact ⟨by show p = (p * 8 + h) / 8; omega, by show h = (p * 8 + h) % 8; omega, rfl⟩) | (rw [if_neg (by omega)]; exact K2)
            · omega
            · omega
            · omega
          · refine rr_iload5 (pc := 62) B dX8_crowd_62 ?_
            refine rr_istore2 (pc := 64) B dX8_crowd_64 rfl ?_
            refine rr_iload6 (pc := 65) B dX8_crowd_65 ?_
            refine rr_istore3 (pc := 67) B dX8_crowd_67 rfl ?_
            refine rr_iload7 (pc := 68) B dX8_crowd_68 ?_
            refine rr_istore4 (pc := 70) B dX8_crowd_70 rfl ?_
            refine rr_iinc6 (z := 1) (pc := 72) B dX8_crowd_72 rfl ?_
            refine rr_goto 35 (pc := 75) B dX8_crowd_75 (by decide) ?_
            refine ih.2.1 _ _ _ _ _ _ _ ?_ ?_ ?_ ?_ ?_ ?_
            · exact K0
            · omega
            · rw [show p * 8 + (h + 1) = p * 8 + h + 1 by omega, show crB (vw S) (p * 8 + h + 1) = crS (vw S) (p * 8 + h) (crB (vw S) (p * 8 + h)) from itI_s _ _ (by omega), cr_s (vw S) (by omega) (by omega), ← K2.2.2]
              first | (rw [if_pos (by omega)]; unfold crW crT; rw [if_neg (by show ¬ (p * 8 + h = -1); omega), if_neg (by show ¬ (p * 8 + h = -1); omega)]; exact ⟨by show p = (p * 8 + h) / 8; omega, by show h = (p * 8 + h) % 8; omega, rfl⟩) | (rw [if_neg (by omega)]; exact K2)
            · omega
            · omega
            · omega
  refine rr_iload1 (pc := 0) B dX8_crowd_0 ?_
  refine rr_iconst (z := 2) (pc := 1) B dX8_crowd_1 ?_
  refine rc_SI2 (pc := 2) B dX8_crowd_2 st_X8_within lk_8_74 (ct_X8_within _ _ _ _  (by first | exact H0 | exact H1 | exact H2 | omega)) (Nat.le_of_ble_eq_true rfl) (Nat.le_of_ble_eq_true rfl) ?_
  refine rr_if_neB 11 (pc := 5) B dX8_crowd_5 (by decide) (fun b1 => ?_) (fun b1 => ?_)
  · replace b1 := of_decide_eq_true b1
    refine rr_aload0 (pc := 11) B dX8_crowd_11 ?_
    refine rc_VVR0 (pc := 12) B dX8_crowd_12 vm_X8_reckonOffers lk_8_175 so_8 rfl (ct_X8_reckonOffers _ _  _ (by first | exact H0 | exact H1 | exact H2 | omega) (by first | exact H0 | exact H1 | exact H2 | omega) (by first | exact H0 | exact H1 | exact H2 | omega)) (Nat.le_of_ble_eq_true rfl) (Nat.le_of_ble_eq_true rfl) (fun Mb2 b2 => ?_)
    refine rr_iconst (z := (-1)) (pc := 15) B dX8_crowd_15 ?_
    refine rr_istore2 (pc := 16) B dX8_crowd_16 rfl ?_
    refine rr_iconst (z := (-1)) (pc := 17) B dX8_crowd_17 ?_
    refine rr_istore3 (pc := 18) B dX8_crowd_18 rfl ?_
    refine rr_iconst (z := 0) (pc := 19) B dX8_crowd_19 ?_
    refine rr_istore4 (pc := 20) B dX8_crowd_20 rfl ?_
    refine rr_iconst (z := 0) (pc := 22) B dX8_crowd_22 ?_
    refine rr_istore5 (pc := 23) B dX8_crowd_23 rfl ?_
    refine (L _).1 _ _ _ _ _ _ _ ?_ ?_ ?_ ?_ (Nat.lt_succ_self _)
    · first | exact K0 | exact b2
    · omega
    · exact ⟨rfl, rfl, rfl⟩
    · omega
  · replace b1 := of_decide_eq_false b1
    refine rr_bipush (z := (-2)) (pc := 8) B dX8_crowd_8 (by decide) ?_
    refine rr_ireturn (pc := 10) B Br dX8_crowd_10 ⟨congrArg (fun z => some (aI z)) ?_, ?_⟩
    · unfold vCrowd; rw [if_neg (by omega)]
    · exact ⟨H0, mo_r M⟩
