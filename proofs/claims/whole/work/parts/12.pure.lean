set_option maxHeartbeats 4000000 in
set_option maxRecDepth 100000 in
theorem ct_X9_needs (g : ax_G) (M : ax_M) (d : Int) (V : ax_M) (H0 : AgM V M) (H1 : 0 ≤ d ∧ d < V 9 2) : CT g md_X9_needs 1 [aR 9, aI d] M (pI (need V d) (M)) := by
  refine ct_intro 1 rfl rfl ?_
  intro X hg B Br
  subst hg
  show AW X 0 [some (aR 9), some (aI d), none] [] M
  refine rr_rg (fun G0 => ?_)
  have HV := H0
  have D8 : V 9 2 ≤ 8 := by have := G0.at ob_9_2.2.1; rw [HV 9 2 (Or.inl rfl)] at this; omega
  refine rr_aload0 (pc := 0) B dX9_needs_0 ?_
  refine rr_getR (pc := 1) B dX9_needs_1 fl_9_28 or_9_7 ?_
  refine rr_iload1 (pc := 4) B dX9_needs_4 ?_
  refine rr_ialoadE (pc := 5) B dX9_needs_5 sa_51 (by omega) (HV 51 _ ⟨by omega, by omega⟩) (fun b1 => ?_)
  refine rc_SI1 (pc := 6) B dX9_needs_6 st_X9_ones lk_9_164 (ct_X9_ones _ _ _  (by omega)) (Nat.le_of_ble_eq_true rfl) (Nat.le_of_ble_eq_true rfl) ?_
  refine rr_istore2 (pc := 9) B dX9_needs_9 rfl ?_
  refine rr_aload0 (pc := 10) B dX9_needs_10 ?_
  refine rr_getR (pc := 11) B dX9_needs_11 fl_9_31 or_9_9 ?_
  refine rr_aload0 (pc := 14) B dX9_needs_14 ?_
  refine rr_getR (pc := 15) B dX9_needs_15 fl_9_16 or_9_3 ?_
  refine rr_iload1 (pc := 18) B dX9_needs_18 ?_
  refine rr_ialoadE (pc := 19) B dX9_needs_19 sa_47 (by omega) (HV 47 _ ⟨by omega, by omega⟩) (fun b2 => ?_)
  refine rr_ialoadE (pc := 20) B dX9_needs_20 sa_52 (by omega) (HV 52 _ ⟨by omega, by omega⟩) (fun b3 => ?_)
  refine rr_iload2 (pc := 21) B dX9_needs_21 ?_
  refine rr_icmp_ge 39 (pc := 22) B dX9_needs_22 (by decide) (by have := on_r (V 51 d); omega) (fun b4 => ?_) (fun b4 => ?_)
  · refine rr_iload2 (pc := 39) B dX9_needs_39 ?_
    refine rr_ireturn (pc := 40) B Br dX9_needs_40 ⟨congrArg (fun z => some (aI z)) ?_, ?_⟩
    · unfold need; first | (rw [if_pos (by omega)]; done) | (rw [if_neg (by omega)]; done)
    · first | rfl | assumption
  · refine rr_aload0 (pc := 25) B dX9_needs_25 ?_
    refine rr_getR (pc := 26) B dX9_needs_26 fl_9_31 or_9_9 ?_
    refine rr_aload0 (pc := 29) B dX9_needs_29 ?_
    refine rr_getR (pc := 30) B dX9_needs_30 fl_9_16 or_9_3 ?_
    refine rr_iload1 (pc := 33) B dX9_needs_33 ?_
    refine rr_ialoadE (pc := 34) B dX9_needs_34 sa_47 (by omega) (HV 47 _ ⟨by omega, by omega⟩) (fun b5 => ?_)
    refine rr_ialoadE (pc := 35) B dX9_needs_35 sa_52 (by omega) (HV 52 _ ⟨by omega, by omega⟩) (fun b6 => ?_)
    refine rr_goto 40 (pc := 36) B dX9_needs_36 (by decide) ?_
    refine rr_ireturn (pc := 40) B Br dX9_needs_40 ⟨congrArg (fun z => some (aI z)) ?_, ?_⟩
    · unfold need; first | (rw [if_pos (by omega)]; done) | (rw [if_neg (by omega)]; done)
    · first | rfl | assumption
set_option maxHeartbeats 4000000 in
set_option maxRecDepth 100000 in
theorem ct_X9_isTurned (g : ax_G) (M : ax_M) (d h : Int) (V : ax_M) (H0 : AgM V M) (H1 : 0 ≤ d ∧ d < V 9 2) (H2 : 0 ≤ h ∧ h ≤ 7) : CT g md_X9_isTurned 0 [aR 9, aI d, aI h] M (pI (bi (trn V d h)) (M)) := by
  refine ct_intro 0 rfl rfl ?_
  intro X hg B Br
  subst hg
  show AW X 0 [some (aR 9), some (aI d), some (aI h)] [] M
  refine rr_rg (fun G0 => ?_)
  have HV := H0
  have D8 : V 9 2 ≤ 8 := by have := G0.at ob_9_2.2.1; rw [HV 9 2 (Or.inl rfl)] at this; omega
  refine rr_aload0 (pc := 0) B dX9_isTurned_0 ?_
  refine rr_getR (pc := 1) B dX9_isTurned_1 fl_9_34 or_9_10 ?_
  refine rr_aload0 (pc := 4) B dX9_isTurned_4 ?_
  refine rr_getR (pc := 5) B dX9_isTurned_5 fl_9_16 or_9_3 ?_
  refine rr_iload1 (pc := 8) B dX9_isTurned_8 ?_
  refine rr_ialoadE (pc := 9) B dX9_isTurned_9 sa_47 (by omega) (HV 47 _ ⟨by omega, by omega⟩) (fun b1 => ?_)
  refine rr_ialoadE (pc := 10) B dX9_isTurned_10 sa_53 (by omega) (HV 53 _ ⟨by omega, by omega⟩) (fun b2 => ?_)
  refine rr_iconst (z := 1) (pc := 11) B dX9_isTurned_11 ?_
  refine rr_icmp_ne 34 (pc := 12) B dX9_isTurned_12 (by decide) (by omega) (fun b3 => ?_) (fun b3 => ?_)
  · refine rr_iconst (z := 0) (pc := 34) B dX9_isTurned_34 ?_
    refine rr_zreturn (pc := 35) B Br dX9_isTurned_35 (by omega) ⟨congrArg (fun z => some (aI z)) ?_, ?_⟩
    · unfold trn; first | (rw [decide_eq_true (by omega)]; rfl) | (rw [decide_eq_false (by omega)]; rfl)
    · first | rfl | assumption
  · refine rr_aload0 (pc := 15) B dX9_isTurned_15 ?_
    refine rr_getR (pc := 16) B dX9_isTurned_16 fl_9_52 or_9_16 ?_
    refine rr_iload2 (pc := 19) B dX9_isTurned_19 ?_
    refine rr_ialoadE (pc := 20) B dX9_isTurned_20 sa_59 (by omega) (HV 59 _ trivial) (fun b4 => ?_)
    refine rr_aload0 (pc := 21) B dX9_isTurned_21 ?_
    refine rr_getR (pc := 22) B dX9_isTurned_22 fl_9_22 or_9_5 ?_
    refine rr_iload1 (pc := 25) B dX9_isTurned_25 ?_
    refine rr_ialoadE (pc := 26) B dX9_isTurned_26 sa_49 (by omega) (HV 49 _ ⟨by omega, by omega⟩) (fun b5 => ?_)
    refine rr_icmp_eq 34 (pc := 27) B dX9_isTurned_27 (by decide) (by omega) (fun b6 => ?_) (fun b6 => ?_)
    · refine rr_iconst (z := 0) (pc := 34) B dX9_isTurned_34 ?_
      refine rr_zreturn (pc := 35) B Br dX9_isTurned_35 (by omega) ⟨congrArg (fun z => some (aI z)) ?_, ?_⟩
      · unfold trn; first | (rw [decide_eq_true (by omega)]; rfl) | (rw [decide_eq_false (by omega)]; rfl)
      · first | rfl | assumption
    · refine rr_iconst (z := 1) (pc := 30) B dX9_isTurned_30 ?_
      refine rr_goto 35 (pc := 31) B dX9_isTurned_31 (by decide) ?_
      refine rr_zreturn (pc := 35) B Br dX9_isTurned_35 (by omega) ⟨congrArg (fun z => some (aI z)) ?_, ?_⟩
      · unfold trn; first | (rw [decide_eq_true (by omega)]; rfl) | (rw [decide_eq_false (by omega)]; rfl)
      · first | rfl | assumption
set_option maxHeartbeats 4000000 in
set_option maxRecDepth 100000 in
theorem ct_X9_comesOf (g : ax_G) (M : ax_M) (d h : Int) (V : ax_M) (H0 : AgM V M) (H1 : 0 ≤ d ∧ d < V 9 2) (H2 : 0 ≤ h ∧ h ≤ 7) : CT g md_X9_comesOf 2 [aR 9, aI d, aI h] M (pI (cm V d h) (M)) := by
  refine ct_intro 5 rfl rfl ?_
  intro X hg B Br
  subst hg
  show AW X 0 [some (aR 9), some (aI d), some (aI h), none, none, none, none, none] [] M
  refine rr_rg (fun G0 => ?_)
  have HV := H0
  have D8 : V 9 2 ≤ 8 := by have := G0.at ob_9_2.2.1; rw [HV 9 2 (Or.inl rfl)] at this; omega
  have L : ∀ n : Nat, (∀ (bits k : Int) (w5 w6 w7 : Option ax_V), (0 ≤ bits ∧ bits < 256) → (0 ≤ k ∧ k ≤ 10) → (cIt V d h k.toNat bits = cm V d h) → ((20 * k + 19).toNat) < n → AW X 30 [some (aR 9), some (aI d), some (aI h), some (aI bits), some (aI k), w5, w6, w7] [] M) ∧ (∀ (bits k best p : Int) (w7 : Option ax_V), (0 ≤ bits ∧ bits < 256) → (0 < k ∧ k ≤ 10) → (best = itI (pkS V d h bits) (-1) p) → (cIt V d h k.toNat bits = cm V d h) → (0 ≤ p ∧ p ≤ 8 ∧ -1 ≤ best ∧ best < p ∨ p = 0 ∧ best = -1) → ((20 * k + 8 - p).toNat) < n → AW X 41 [some (aR 9), some (aI d), some (aI h), some (aI bits), some (aI k), some (aI best), some (aI p), w7] [] M) ∧ True := by
    intro n
    induction n with
    | zero => exact ⟨by intros; omega, by intros; omega, trivial⟩
    | succ n ih =>
      refine ⟨?_, ?_, trivial⟩
      · intro bits k w5 w6 w7 K0 K1 K2 hm
        refine rr_iload4 (pc := 30) B dX9_comesOf_30 ?_
        refine rr_if_le 165 (pc := 32) B dX9_comesOf_32 (by decide) (by omega) (fun b1 => ?_) (fun b1 => ?_)
        · refine rr_iload3 (pc := 165) B dX9_comesOf_165 ?_
          refine rr_ireturn (pc := 166) B Br dX9_comesOf_166 ⟨congrArg (fun z => some (aI z)) ?_, ?_⟩
          · rw [← K2, show k.toNat = 0 by omega]; rfl
          · first | rfl | assumption
        · refine rr_iconst (z := (-1)) (pc := 35) B dX9_comesOf_35 ?_
          refine rr_istore5 (pc := 36) B dX9_comesOf_36 rfl ?_
          refine rr_iconst (z := 0) (pc := 38) B dX9_comesOf_38 ?_
          refine rr_istore6 (pc := 39) B dX9_comesOf_39 rfl ?_
          refine ih.2.1 _ _ _ _ _ ?_ ?_ ?_ ?_ ?_ ?_
          · omega
          · omega
          · rfl
          · assumption
          · omega
          · omega
      · intro bits k best p w7 K0 K1 K2 K3 K4 hm
        refine rr_iload6 (pc := 41) B dX9_comesOf_41 ?_
        refine rr_bipush (z := 8) (pc := 43) B dX9_comesOf_43 (by decide) ?_
        refine rr_icmp_ge 143 (pc := 45) B dX9_comesOf_45 (by decide) (by omega) (fun b1 => ?_) (fun b1 => ?_)
        · refine rr_iload5 (pc := 143) B dX9_comesOf_143 ?_
          refine rr_iconst (z := (-1)) (pc := 145) B dX9_comesOf_145 ?_
          refine rr_icmp_ne 152 (pc := 146) B dX9_comesOf_146 (by decide) (by omega) (fun b2 => ?_) (fun b2 => ?_)
          · refine rr_iload3 (pc := 152) B dX9_comesOf_152 ?_
            refine rr_iconst (z := 1) (pc := 153) B dX9_comesOf_153 ?_
            refine rr_iload5 (pc := 154) B dX9_comesOf_154 ?_
            refine rr_shl1 (pc := 156) B dX9_comesOf_156 (by omega) (fun b3 => ?_)
            refine rr_orN 8 (pc := 157) B dX9_comesOf_157 (by decide) (by have q2 := p2_le (a := best) (b := 7) (by omega); have q3 : p2 7 = 128 := rfl; omega) (fun b4 => ?_)
            refine rr_istore3 (pc := 158) B dX9_comesOf_158 rfl ?_
            refine rr_iinc4 (z := (-1)) (pc := 159) B dX9_comesOf_159 rfl ?_
            refine rr_goto 30 (pc := 162) B dX9_comesOf_162 (by decide) ?_
            refine ih.1 _ _ _ _ _ ?_ ?_ ?_ ?_
            · omega
            · omega
            · rw [← K3, show k.toNat = (k + -1).toNat + 1 by omega]
              rw [cIt, if_neg (by rw [show pk V d h bits = best by rw [K2, show p = 8 by omega]; rfl]; omega), show pk V d h bits = best by rw [K2, show p = 8 by omega]; rfl]
            · omega
          · refine rr_bipush (z := (-3)) (pc := 149) B dX9_comesOf_149 (by decide) ?_
            refine rr_ireturn (pc := 151) B Br dX9_comesOf_151 ⟨congrArg (fun z => some (aI z)) ?_, ?_⟩
            · rw [← K3, show k.toNat = (k - 1).toNat + 1 by omega, cIt, if_pos]; unfold pk; rw [show (8 : Int) = p by omega, ← K2]; omega
            · first | rfl | assumption
        · refine rr_aload0 (pc := 48) B dX9_comesOf_48 ?_
          refine rr_getR (pc := 49) B dX9_comesOf_49 fl_9_28 or_9_7 ?_
          refine rr_iload1 (pc := 52) B dX9_comesOf_52 ?_
          refine rr_ialoadE (pc := 53) B dX9_comesOf_53 sa_51 (by omega) (HV 51 _ ⟨by omega, by omega⟩) (fun b2 => ?_)
          refine rr_iload6 (pc := 54) B dX9_comesOf_54 ?_
          refine rc_SI2 (pc := 56) B dX9_comesOf_56 st_X9_isIn lk_9_119 (ct_X9_isIn _ _ _ _  (by omega) (by omega)) (Nat.le_of_ble_eq_true rfl) (Nat.le_of_ble_eq_true rfl) ?_
          refine rr_if_eqB 97 (pc := 59) B dX9_comesOf_59 (by decide) (fun b3 => ?_) (fun b3 => ?_)
          · refine rr_iconst (z := 0) (pc := 97) B dX9_comesOf_97 ?_
            refine rr_istore7 (pc := 98) B dX9_comesOf_98 rfl ?_
            refine rr_iload7 (pc := 100) B dX9_comesOf_100 ?_
            refine rr_if_eq 133 (pc := 102) B dX9_comesOf_102 (by decide) (by omega) (fun b4 => ?_) (fun b4 => absurd b4 (by omega))
            refine rr_iload5 (pc := 133) B dX9_comesOf_133 ?_
            refine rr_istore5 (pc := 135) B dX9_comesOf_135 rfl ?_
            refine rr_iinc6 (z := 1) (pc := 137) B dX9_comesOf_137 rfl ?_
            refine rr_goto 41 (pc := 140) B dX9_comesOf_140 (by decide) ?_
            refine ih.2.1 _ _ _ _ _ ?_ ?_ ?_ ?_ ?_ ?_
            · omega
            · omega
            · rw [itI_s _ _ (by omega), ← K2]
              unfold pkS avl
              split
              · rename_i q
                obtain ⟨⟨q1, q2⟩, q3⟩ := q
                simp only [Bool.and_eq_true, decide_eq_true_eq] at q1
                first | rfl | (exfalso; first | omega | (simp_all; done))
              · rename_i q
                first | rfl | (exfalso; apply q; simp only [Bool.and_eq_true, decide_eq_true_eq]; exact ⟨⟨⟨by assumption, by omega⟩, by assumption⟩, by omega⟩)
            · assumption
            · omega
            · omega
          · refine rr_iload3 (pc := 62) B dX9_comesOf_62 ?_
            refine rr_iload6 (pc := 63) B dX9_comesOf_63 ?_
            refine rc_SI2 (pc := 65) B dX9_comesOf_65 st_X9_isIn lk_9_119 (ct_X9_isIn _ _ _ _  (by omega) (by omega)) (Nat.le_of_ble_eq_true rfl) (Nat.le_of_ble_eq_true rfl) ?_
            refine rr_if_neB 97 (pc := 68) B dX9_comesOf_68 (by decide) (fun b4 => ?_) (fun b4 => ?_)
            · refine rr_iconst (z := 0) (pc := 97) B dX9_comesOf_97 ?_
              refine rr_istore7 (pc := 98) B dX9_comesOf_98 rfl ?_
              refine rr_iload7 (pc := 100) B dX9_comesOf_100 ?_
              refine rr_if_eq 133 (pc := 102) B dX9_comesOf_102 (by decide) (by omega) (fun b5 => ?_) (fun b5 => absurd b5 (by omega))
              refine rr_iload5 (pc := 133) B dX9_comesOf_133 ?_
              refine rr_istore5 (pc := 135) B dX9_comesOf_135 rfl ?_
              refine rr_iinc6 (z := 1) (pc := 137) B dX9_comesOf_137 rfl ?_
              refine rr_goto 41 (pc := 140) B dX9_comesOf_140 (by decide) ?_
              refine ih.2.1 _ _ _ _ _ ?_ ?_ ?_ ?_ ?_ ?_
              · omega
              · omega
              · rw [itI_s _ _ (by omega), ← K2]
                unfold pkS avl
                split
                · rename_i q
                  obtain ⟨⟨q1, q2⟩, q3⟩ := q
                  simp only [Bool.and_eq_true, decide_eq_true_eq] at q1
                  first | rfl | (exfalso; first | omega | (simp_all; done))
                · rename_i q
                  first | rfl | (exfalso; apply q; simp only [Bool.and_eq_true, decide_eq_true_eq]; exact ⟨⟨⟨by assumption, by omega⟩, by assumption⟩, by omega⟩)
              · assumption
              · omega
              · omega
            · refine rr_aload0 (pc := 71) B dX9_comesOf_71 ?_
              refine rr_getR (pc := 72) B dX9_comesOf_72 fl_9_40 or_9_12 ?_
              refine rr_iload6 (pc := 75) B dX9_comesOf_75 ?_
              refine rr_ialoadE (pc := 77) B dX9_comesOf_77 sa_55 (by omega) (HV 55 _ trivial) (fun b5 => ?_)
              refine rr_iload2 (pc := 78) B dX9_comesOf_78 ?_
              refine rr_icmp_gt 97 (pc := 79) B dX9_comesOf_79 (by decide) (by omega) (fun b6 => ?_) (fun b6 => ?_)
              · refine rr_iconst (z := 0) (pc := 97) B dX9_comesOf_97 ?_
                refine rr_istore7 (pc := 98) B dX9_comesOf_98 rfl ?_
                refine rr_iload7 (pc := 100) B dX9_comesOf_100 ?_
                refine rr_if_eq 133 (pc := 102) B dX9_comesOf_102 (by decide) (by omega) (fun b7 => ?_) (fun b7 => absurd b7 (by omega))
                refine rr_iload5 (pc := 133) B dX9_comesOf_133 ?_
                refine rr_istore5 (pc := 135) B dX9_comesOf_135 rfl ?_
                refine rr_iinc6 (z := 1) (pc := 137) B dX9_comesOf_137 rfl ?_
                refine rr_goto 41 (pc := 140) B dX9_comesOf_140 (by decide) ?_
                refine ih.2.1 _ _ _ _ _ ?_ ?_ ?_ ?_ ?_ ?_
                · omega
                · omega
                · rw [itI_s _ _ (by omega), ← K2]
                  unfold pkS avl
                  split
                  · rename_i q
                    obtain ⟨⟨q1, q2⟩, q3⟩ := q
                    simp only [Bool.and_eq_true, decide_eq_true_eq] at q1
                    first | rfl | (exfalso; first | omega | (simp_all; done))
                  · rename_i q
                    first | rfl | (exfalso; apply q; simp only [Bool.and_eq_true, decide_eq_true_eq]; exact ⟨⟨⟨by assumption, by omega⟩, by assumption⟩, by omega⟩)
                · assumption
                · omega
                · omega
              · refine rr_iload2 (pc := 82) B dX9_comesOf_82 ?_
                refine rr_aload0 (pc := 83) B dX9_comesOf_83 ?_
                refine rr_getR (pc := 84) B dX9_comesOf_84 fl_9_43 or_9_13 ?_
                refine rr_iload6 (pc := 87) B dX9_comesOf_87 ?_
                refine rr_ialoadE (pc := 89) B dX9_comesOf_89 sa_56 (by omega) (HV 56 _ trivial) (fun b7 => ?_)
                refine rr_icmp_ge 97 (pc := 90) B dX9_comesOf_90 (by decide) (by omega) (fun b8 => ?_) (fun b8 => ?_)
                · refine rr_iconst (z := 0) (pc := 97) B dX9_comesOf_97 ?_
                  refine rr_istore7 (pc := 98) B dX9_comesOf_98 rfl ?_
                  refine rr_iload7 (pc := 100) B dX9_comesOf_100 ?_
                  refine rr_if_eq 133 (pc := 102) B dX9_comesOf_102 (by decide) (by omega) (fun b9 => ?_) (fun b9 => absurd b9 (by omega))
                  refine rr_iload5 (pc := 133) B dX9_comesOf_133 ?_
                  refine rr_istore5 (pc := 135) B dX9_comesOf_135 rfl ?_
                  refine rr_iinc6 (z := 1) (pc := 137) B dX9_comesOf_137 rfl ?_
                  refine rr_goto 41 (pc := 140) B dX9_comesOf_140 (by decide) ?_
                  refine ih.2.1 _ _ _ _ _ ?_ ?_ ?_ ?_ ?_ ?_
                  · omega
                  · omega
                  · rw [itI_s _ _ (by omega), ← K2]
                    unfold pkS avl
                    split
                    · rename_i q
                      obtain ⟨⟨q1, q2⟩, q3⟩ := q
                      simp only [Bool.and_eq_true, decide_eq_true_eq] at q1
                      first | rfl | (exfalso; first | omega | (simp_all; done))
                    · rename_i q
                      first | rfl | (exfalso; apply q; simp only [Bool.and_eq_true, decide_eq_true_eq]; exact ⟨⟨⟨by assumption, by omega⟩, by assumption⟩, by omega⟩)
                  · assumption
                  · omega
                  · omega
                · refine rr_iconst (z := 1) (pc := 93) B dX9_comesOf_93 ?_
                  refine rr_goto 98 (pc := 94) B dX9_comesOf_94 (by decide) ?_
                  refine rr_istore7 (pc := 98) B dX9_comesOf_98 rfl ?_
                  refine rr_iload7 (pc := 100) B dX9_comesOf_100 ?_
                  refine rr_if_eq 133 (pc := 102) B dX9_comesOf_102 (by decide) (by omega) (fun b9 => absurd b9 (by omega)) (fun b9 => ?_)
                  refine rr_iload5 (pc := 105) B dX9_comesOf_105 ?_
                  refine rr_iconst (z := (-1)) (pc := 107) B dX9_comesOf_107 ?_
                  refine rr_icmp_eq 128 (pc := 108) B dX9_comesOf_108 (by decide) (by omega) (fun b10 => ?_) (fun b10 => ?_)
                  · refine rr_iload6 (pc := 128) B dX9_comesOf_128 ?_
                    refine rr_goto 135 (pc := 130) B dX9_comesOf_130 (by decide) ?_
                    refine rr_istore5 (pc := 135) B dX9_comesOf_135 rfl ?_
                    refine rr_iinc6 (z := 1) (pc := 137) B dX9_comesOf_137 rfl ?_
                    refine rr_goto 41 (pc := 140) B dX9_comesOf_140 (by decide) ?_
                    refine ih.2.1 _ _ _ _ _ ?_ ?_ ?_ ?_ ?_ ?_
                    · omega
                    · omega
                    · rw [itI_s _ _ (by omega), ← K2]
                      unfold pkS avl
                      split
                      · rename_i q
                        obtain ⟨⟨q1, q2⟩, q3⟩ := q
                        simp only [Bool.and_eq_true, decide_eq_true_eq] at q1
                        first | rfl | (exfalso; first | omega | (simp_all; done))
                      · rename_i q
                        first | rfl | (exfalso; apply q; simp only [Bool.and_eq_true, decide_eq_true_eq]; exact ⟨⟨⟨by assumption, by omega⟩, by assumption⟩, by omega⟩)
                    · assumption
                    · omega
                    · omega
                  · refine rr_aload0 (pc := 111) B dX9_comesOf_111 ?_
                    refine rr_getR (pc := 112) B dX9_comesOf_112 fl_9_46 or_9_14 ?_
                    refine rr_iload6 (pc := 115) B dX9_comesOf_115 ?_
                    refine rr_ialoadE (pc := 117) B dX9_comesOf_117 sa_57 (by omega) (HV 57 _ trivial) (fun b11 => ?_)
                    refine rr_aload0 (pc := 118) B dX9_comesOf_118 ?_
                    refine rr_getR (pc := 119) B dX9_comesOf_119 fl_9_46 or_9_14 ?_
                    refine rr_iload5 (pc := 122) B dX9_comesOf_122 ?_
                    refine rr_ialoadE (pc := 124) B dX9_comesOf_124 sa_57 (by omega) (HV 57 _ trivial) (fun b12 => ?_)
                    refine rr_icmp_ge 133 (pc := 125) B dX9_comesOf_125 (by decide) (by omega) (fun b13 => ?_) (fun b13 => ?_)
                    · refine rr_iload5 (pc := 133) B dX9_comesOf_133 ?_
                      refine rr_istore5 (pc := 135) B dX9_comesOf_135 rfl ?_
                      refine rr_iinc6 (z := 1) (pc := 137) B dX9_comesOf_137 rfl ?_
                      refine rr_goto 41 (pc := 140) B dX9_comesOf_140 (by decide) ?_
                      refine ih.2.1 _ _ _ _ _ ?_ ?_ ?_ ?_ ?_ ?_
                      · omega
                      · omega
                      · rw [itI_s _ _ (by omega), ← K2]
                        unfold pkS avl
                        split
                        · rename_i q
                          obtain ⟨⟨q1, q2⟩, q3⟩ := q
                          simp only [Bool.and_eq_true, decide_eq_true_eq] at q1
                          first | rfl | (exfalso; first | omega | (simp_all; done))
                        · rename_i q
                          first | rfl | (exfalso; apply q; simp only [Bool.and_eq_true, decide_eq_true_eq]; exact ⟨⟨⟨by assumption, by omega⟩, by assumption⟩, by omega⟩)
                      · assumption
                      · omega
                      · omega
                    · refine rr_iload6 (pc := 128) B dX9_comesOf_128 ?_
                      refine rr_goto 135 (pc := 130) B dX9_comesOf_130 (by decide) ?_
                      refine rr_istore5 (pc := 135) B dX9_comesOf_135 rfl ?_
                      refine rr_iinc6 (z := 1) (pc := 137) B dX9_comesOf_137 rfl ?_
                      refine rr_goto 41 (pc := 140) B dX9_comesOf_140 (by decide) ?_
                      refine ih.2.1 _ _ _ _ _ ?_ ?_ ?_ ?_ ?_ ?_
                      · omega
                      · omega
                      · rw [itI_s _ _ (by omega), ← K2]
                        unfold pkS avl
                        split
                        · rename_i q
                          obtain ⟨⟨q1, q2⟩, q3⟩ := q
                          simp only [Bool.and_eq_true, decide_eq_true_eq] at q1
                          first | rfl | (exfalso; first | omega | (simp_all; done))
                        · rename_i q
                          first | rfl | (exfalso; apply q; simp only [Bool.and_eq_true, decide_eq_true_eq]; exact ⟨⟨⟨by assumption, by omega⟩, by assumption⟩, by omega⟩)
                      · assumption
                      · omega
                      · omega
  refine rr_aload0 (pc := 0) B dX9_comesOf_0 ?_
  refine rr_iload1 (pc := 1) B dX9_comesOf_1 ?_
  refine rr_iload2 (pc := 2) B dX9_comesOf_2 ?_
  refine rc_VI2 (pc := 3) B dX9_comesOf_3 vm_X9_isTurned lk_9_167 so_9 rfl (ct_X9_isTurned _ _ _ _ _ (by omega) (by omega) (by omega)) (Nat.le_of_ble_eq_true rfl) (Nat.le_of_ble_eq_true rfl) ?_
  refine rr_if_eqB 21 (pc := 6) B dX9_comesOf_6 (by decide) (fun b1 => ?_) (fun b1 => ?_)
  · refine rr_iconst (z := 0) (pc := 21) B dX9_comesOf_21 ?_
    refine rr_istore3 (pc := 22) B dX9_comesOf_22 rfl ?_
    refine rr_aload0 (pc := 23) B dX9_comesOf_23 ?_
    refine rr_iload1 (pc := 24) B dX9_comesOf_24 ?_
    refine rc_VI1 (pc := 25) B dX9_comesOf_25 vm_X9_needs lk_9_170 so_9 rfl (ct_X9_needs _ _ _ _ (by omega) (by omega)) (Nat.le_of_ble_eq_true rfl) (Nat.le_of_ble_eq_true rfl) ?_
    refine rr_istore4 (pc := 28) B dX9_comesOf_28 rfl ?_
    refine (L _).1 _ _ _ _ _ ?_ ?_ ?_ (Nat.lt_succ_self _)
    · omega
    · have := on_r (V 51 d); have r := G0.at (sa_52.2.2 (V 47 d)); have r2 := G0.at (sa_47.2.2 d); rw [HV 47 d ⟨by omega, by omega⟩] at r2; rw [HV 52 _ ⟨by omega, by omega⟩] at r; unfold need; split <;> omega
    · unfold cm; rw [if_neg]; intro q; first | omega | (simp_all; done)
  · refine rr_aload0 (pc := 9) B dX9_comesOf_9 ?_
    refine rr_getR (pc := 10) B dX9_comesOf_10 fl_9_55 or_9_17 ?_
    refine rr_iconst (z := 1) (pc := 13) B dX9_comesOf_13 ?_
    refine rr_ialoadE (pc := 14) B dX9_comesOf_14 sa_60 (by omega) (HV 60 _ trivial) (fun b2 => ?_)
    refine rr_if_ne 21 (pc := 15) B dX9_comesOf_15 (by decide) (by omega) (fun b3 => ?_) (fun b3 => ?_)
    · refine rr_iconst (z := 0) (pc := 21) B dX9_comesOf_21 ?_
      refine rr_istore3 (pc := 22) B dX9_comesOf_22 rfl ?_
      refine rr_aload0 (pc := 23) B dX9_comesOf_23 ?_
      refine rr_iload1 (pc := 24) B dX9_comesOf_24 ?_
      refine rc_VI1 (pc := 25) B dX9_comesOf_25 vm_X9_needs lk_9_170 so_9 rfl (ct_X9_needs _ _ _ _ (by omega) (by omega)) (Nat.le_of_ble_eq_true rfl) (Nat.le_of_ble_eq_true rfl) ?_
      refine rr_istore4 (pc := 28) B dX9_comesOf_28 rfl ?_
      refine (L _).1 _ _ _ _ _ ?_ ?_ ?_ (Nat.lt_succ_self _)
      · omega
      · have := on_r (V 51 d); have r := G0.at (sa_52.2.2 (V 47 d)); have r2 := G0.at (sa_47.2.2 d); rw [HV 47 d ⟨by omega, by omega⟩] at r2; rw [HV 52 _ ⟨by omega, by omega⟩] at r; unfold need; split <;> omega
      · unfold cm; rw [if_neg]; intro q; first | omega | (simp_all; done)
    · refine rr_bipush (z := (-3)) (pc := 18) B dX9_comesOf_18 (by decide) ?_
      refine rr_ireturn (pc := 20) B Br dX9_comesOf_20 ⟨congrArg (fun z => some (aI z)) ?_, ?_⟩
      · unfold cm; rw [if_pos ⟨by assumption, by omega⟩]
      · first | rfl | assumption
set_option maxHeartbeats 4000000 in
set_option maxRecDepth 100000 in
theorem ct_X9_canOf (g : ax_G) (M : ax_M) (d h : Int) (V : ax_M) (H0 : AgM V M) (H1 : 0 ≤ d ∧ d < V 9 2) (H2 : 0 ≤ h ∧ h ≤ 7) : CT g md_X9_canOf 3 [aR 9, aI d, aI h] M (pI (bi (decide (cm V d h ≠ -3))) (M)) := by
  refine ct_intro 0 rfl rfl ?_
  intro X hg B Br
  subst hg
  show AW X 0 [some (aR 9), some (aI d), some (aI h)] [] M
  refine rr_rg (fun G0 => ?_)
  have HV := H0
  refine rr_aload0 (pc := 0) B dX9_canOf_0 ?_
  refine rr_iload1 (pc := 1) B dX9_canOf_1 ?_
  refine rr_iload2 (pc := 2) B dX9_canOf_2 ?_
  refine rc_VI2 (pc := 3) B dX9_canOf_3 vm_X9_comesOf lk_9_173 so_9 rfl (ct_X9_comesOf _ _ _ _ _ (by omega) (by omega) (by omega)) (Nat.le_of_ble_eq_true rfl) (Nat.le_of_ble_eq_true rfl) ?_
  refine rr_bipush (z := (-3)) (pc := 6) B dX9_canOf_6 (by decide) ?_
  refine rr_icmp_ne 15 (pc := 8) B dX9_canOf_8 (by decide) (by have := cm_r V d h; omega) (fun b1 => ?_) (fun b1 => ?_)
  · refine rr_iconst (z := 1) (pc := 15) B dX9_canOf_15 ?_
    refine rr_ireturn (pc := 16) B Br dX9_canOf_16 ⟨congrArg (fun z => some (aI z)) ?_, ?_⟩
    · first | (rw [decide_eq_true (by omega)]; rfl) | (rw [decide_eq_false (by omega)]; rfl)
    · first | rfl | assumption
  · refine rr_iconst (z := 0) (pc := 11) B dX9_canOf_11 ?_
    refine rr_goto 16 (pc := 12) B dX9_canOf_12 (by decide) ?_
    refine rr_ireturn (pc := 16) B Br dX9_canOf_16 ⟨congrArg (fun z => some (aI z)) ?_, ?_⟩
    · first | (rw [decide_eq_true (by omega)]; rfl) | (rw [decide_eq_false (by omega)]; rfl)
    · first | rfl | assumption
set_option maxHeartbeats 4000000 in
set_option maxRecDepth 100000 in
theorem ct_X9_hoursOf (g : ax_G) (M : ax_M) (d : Int) (V : ax_M) (H0 : AgM V M) (H1 : 0 ≤ d ∧ d < V 9 2) : CT g md_X9_hoursOf 4 [aR 9, aI d] M (pI (hrs V d) (M)) := by
  refine ct_intro 2 rfl rfl ?_
  intro X hg B Br
  subst hg
  show AW X 0 [some (aR 9), some (aI d), none, none] [] M
  refine rr_rg (fun G0 => ?_)
  have HV := H0
  have L : ∀ n : Nat, (∀ (b h : Int), (0 ≤ h ∧ h ≤ 8) → (b = itI (fun h b => nO b (bi (decide (cm V d h ≠ -3)) * p2 h)) 0 h) → (0 ≤ b ∧ b < 256) → ((8 - h).toNat) < n → AW X 4 [some (aR 9), some (aI d), some (aI b), some (aI h)] [] M) ∧ True := by
    intro n
    induction n with
    | zero => exact ⟨by intros; omega, trivial⟩
    | succ n ih =>
      refine ⟨?_, trivial⟩
      · intro b h K0 K1 K2 hm
        refine rr_iload3 (pc := 4) B dX9_hoursOf_4 ?_
        refine rr_bipush (z := 8) (pc := 5) B dX9_hoursOf_5 (by decide) ?_
        refine rr_icmp_ge 27 (pc := 7) B dX9_hoursOf_7 (by decide) (by omega) (fun b1 => ?_) (fun b1 => ?_)
        · refine rr_iload2 (pc := 27) B dX9_hoursOf_27 ?_
          refine rr_ireturn (pc := 28) B Br dX9_hoursOf_28 ⟨congrArg (fun z => some (aI z)) ?_, ?_⟩
          · rw [K1, show h = 8 by omega]; rfl
          · first | rfl | assumption
        · refine rr_iload2 (pc := 10) B dX9_hoursOf_10 ?_
          refine rr_aload0 (pc := 11) B dX9_hoursOf_11 ?_
          refine rr_iload1 (pc := 12) B dX9_hoursOf_12 ?_
          refine rr_iload3 (pc := 13) B dX9_hoursOf_13 ?_
          refine rc_VI2 (pc := 14) B dX9_hoursOf_14 vm_X9_canOf lk_9_176 so_9 rfl (ct_X9_canOf _ _ _ _ _ (by omega) (by omega) (by omega)) (Nat.le_of_ble_eq_true rfl) (Nat.le_of_ble_eq_true rfl) ?_
          refine rr_iload3 (pc := 17) B dX9_hoursOf_17 ?_
          refine rr_shlB (pc := 18) B dX9_hoursOf_18 (by omega) (fun b2 => ?_)
          refine rr_orN 8 (pc := 19) B dX9_hoursOf_19 (by decide) (by have q2 := p2_le (a := h) (b := 7) (by omega); have q3 : p2 7 = 128 := rfl; omega) (fun b3 => ?_)
          refine rr_istore2 (pc := 20) B dX9_hoursOf_20 rfl ?_
          refine rr_iinc3 (z := 1) (pc := 21) B dX9_hoursOf_21 rfl ?_
          refine rr_goto 4 (pc := 24) B dX9_hoursOf_24 (by decide) ?_
          refine ih.1 _ _ ?_ ?_ ?_ ?_
          · omega
          · rw [itI_s _ _ (by omega), ← K1]
          · omega
          · omega
  refine rr_iconst (z := 0) (pc := 0) B dX9_hoursOf_0 ?_
  refine rr_istore2 (pc := 1) B dX9_hoursOf_1 rfl ?_
  refine rr_iconst (z := 0) (pc := 2) B dX9_hoursOf_2 ?_
  refine rr_istore3 (pc := 3) B dX9_hoursOf_3 rfl ?_
  refine (L _).1 _ _ ?_ ?_ ?_ (Nat.lt_succ_self _)
  · omega
  · rfl
  · omega
set_option maxHeartbeats 4000000 in
set_option maxRecDepth 100000 in
theorem ct_X9_pricesOf (g : ax_G) (M : ax_M) (bits : Int) (V : ax_M) (H0 : AgM V M) (H1 : 0 ≤ bits ∧ bits ≤ 2147483647) : CT g md_X9_pricesOf 1 [aR 9, aI bits] M (pI (prc V bits) (M)) := by
  refine ct_intro 2 rfl rfl ?_
  intro X hg B Br
  subst hg
  show AW X 0 [some (aR 9), some (aI bits), none, none] [] M
  refine rr_rg (fun G0 => ?_)
  have HV := H0
  have L : ∀ n : Nat, (∀ (s1 p : Int), (0 ≤ p ∧ p ≤ 8) → (s1 = itI (fun p s => s + if tb bits p = true then V 57 p else 0) 0 p) → (0 ≤ s1 ∧ s1 ≤ 99 * p) → ((8 - p).toNat) < n → AW X 4 [some (aR 9), some (aI bits), some (aI s1), some (aI p)] [] M) ∧ True := by
    intro n
    induction n with
    | zero => exact ⟨by intros; omega, trivial⟩
    | succ n ih =>
      refine ⟨?_, trivial⟩
      · intro s1 p K0 K1 K2 hm
        refine rr_iload3 (pc := 4) B dX9_pricesOf_4 ?_
        refine rr_bipush (z := 8) (pc := 5) B dX9_pricesOf_5 (by decide) ?_
        refine rr_icmp_ge 37 (pc := 7) B dX9_pricesOf_7 (by decide) (by omega) (fun b1 => ?_) (fun b1 => ?_)
        · refine rr_iload2 (pc := 37) B dX9_pricesOf_37 ?_
          refine rr_ireturn (pc := 38) B Br dX9_pricesOf_38 ⟨congrArg (fun z => some (aI z)) ?_, ?_⟩
          · rw [K1, show p = 8 by omega]; rfl
          · first | rfl | assumption
        · refine rr_iload2 (pc := 10) B dX9_pricesOf_10 ?_
          refine rr_iload1 (pc := 11) B dX9_pricesOf_11 ?_
          refine rr_iload3 (pc := 12) B dX9_pricesOf_12 ?_
          refine rc_SI2 (pc := 13) B dX9_pricesOf_13 st_X9_isIn lk_9_119 (ct_X9_isIn _ _ _ _  (by omega) (by omega)) (Nat.le_of_ble_eq_true rfl) (Nat.le_of_ble_eq_true rfl) ?_
          refine rr_if_eqB 28 (pc := 16) B dX9_pricesOf_16 (by decide) (fun b2 => ?_) (fun b2 => ?_)
          · refine rr_iconst (z := 0) (pc := 28) B dX9_pricesOf_28 ?_
            refine rr_iadd (pc := 29) B dX9_pricesOf_29 ?_
            refine rr_istore2 (pc := 30) B dX9_pricesOf_30 rfl ?_
            refine rr_iinc3 (z := 1) (pc := 31) B dX9_pricesOf_31 rfl ?_
            refine rr_goto 4 (pc := 34) B dX9_pricesOf_34 (by decide) ?_
            refine ih.1 _ _ ?_ ?_ ?_ ?_
            · omega
            · rw [itI_s _ _ (by omega), ← K1]; first | (rw [if_pos (by assumption)]; done) | (rw [if_neg (by simp_all)]; done)
            · omega
            · omega
          · refine rr_aload0 (pc := 19) B dX9_pricesOf_19 ?_
            refine rr_getR (pc := 20) B dX9_pricesOf_20 fl_9_46 or_9_14 ?_
            refine rr_iload3 (pc := 23) B dX9_pricesOf_23 ?_
            refine rr_ialoadE (pc := 24) B dX9_pricesOf_24 sa_57 (by omega) (HV 57 _ trivial) (fun b3 => ?_)
            refine rr_goto 29 (pc := 25) B dX9_pricesOf_25 (by decide) ?_
            refine rr_iadd (pc := 29) B dX9_pricesOf_29 ?_
            refine rr_istore2 (pc := 30) B dX9_pricesOf_30 rfl ?_
            refine rr_iinc3 (z := 1) (pc := 31) B dX9_pricesOf_31 rfl ?_
            refine rr_goto 4 (pc := 34) B dX9_pricesOf_34 (by decide) ?_
            refine ih.1 _ _ ?_ ?_ ?_ ?_
            · omega
            · rw [itI_s _ _ (by omega), ← K1]; first | (rw [if_pos (by assumption)]; done) | (rw [if_neg (by simp_all)]; done)
            · omega
            · omega
  refine rr_iconst (z := 0) (pc := 0) B dX9_pricesOf_0 ?_
  refine rr_istore2 (pc := 1) B dX9_pricesOf_1 rfl ?_
  refine rr_iconst (z := 0) (pc := 2) B dX9_pricesOf_2 ?_
  refine rr_istore3 (pc := 3) B dX9_pricesOf_3 rfl ?_
  refine (L _).1 _ _ ?_ ?_ ?_ (Nat.lt_succ_self _)
  · omega
  · rfl
  · omega
set_option maxHeartbeats 4000000 in
set_option maxRecDepth 100000 in
theorem ct_X9_costsOf (g : ax_G) (M : ax_M) (d h : Int) (V : ax_M) (H0 : AgM V M) (H1 : 0 ≤ d ∧ d < V 9 2) (H2 : 0 ≤ h ∧ h ≤ 7) : CT g md_X9_costsOf 3 [aR 9, aI d, aI h] M (pI (cst V d h) (M)) := by
  refine ct_intro 1 rfl rfl ?_
  intro X hg B Br
  subst hg
  show AW X 0 [some (aR 9), some (aI d), some (aI h), none] [] M
  refine rr_rg (fun G0 => ?_)
  have HV := H0
  refine rr_aload0 (pc := 0) B dX9_costsOf_0 ?_
  refine rr_iload1 (pc := 1) B dX9_costsOf_1 ?_
  refine rr_iload2 (pc := 2) B dX9_costsOf_2 ?_
  refine rc_VI2 (pc := 3) B dX9_costsOf_3 vm_X9_comesOf lk_9_173 so_9 rfl (ct_X9_comesOf _ _ _ _ _ (by omega) (by omega) (by omega)) (Nat.le_of_ble_eq_true rfl) (Nat.le_of_ble_eq_true rfl) ?_
  refine rr_istore3 (pc := 6) B dX9_costsOf_6 rfl ?_
  refine rr_iload3 (pc := 7) B dX9_costsOf_7 ?_
  refine rr_bipush (z := (-3)) (pc := 8) B dX9_costsOf_8 (by decide) ?_
  refine rr_icmp_ne 18 (pc := 10) B dX9_costsOf_10 (by decide) (by have := cm_r V d h; omega) (fun b1 => ?_) (fun b1 => ?_)
  · refine rr_aload0 (pc := 18) B dX9_costsOf_18 ?_
    refine rr_iload3 (pc := 19) B dX9_costsOf_19 ?_
    refine rc_VI1 (pc := 20) B dX9_costsOf_20 vm_X9_pricesOf lk_9_182 so_9 rfl (ct_X9_pricesOf _ _ _ _ (by first | assumption | (have := cm_r V d h; omega)) (by first | assumption | (have := cm_r V d h; omega))) (Nat.le_of_ble_eq_true rfl) (Nat.le_of_ble_eq_true rfl) ?_
    refine rr_aload0 (pc := 23) B dX9_costsOf_23 ?_
    refine rr_iload1 (pc := 24) B dX9_costsOf_24 ?_
    refine rr_iload2 (pc := 25) B dX9_costsOf_25 ?_
    refine rc_VI2 (pc := 26) B dX9_costsOf_26 vm_X9_isTurned lk_9_167 so_9 rfl (ct_X9_isTurned _ _ _ _ _ (by omega) (by omega) (by omega)) (Nat.le_of_ble_eq_true rfl) (Nat.le_of_ble_eq_true rfl) ?_
    refine rr_if_eqB 41 (pc := 29) B dX9_costsOf_29 (by decide) (fun b2 => ?_) (fun b2 => ?_)
    · refine rr_iconst (z := 0) (pc := 41) B dX9_costsOf_41 ?_
      refine rr_iadd (pc := 42) B dX9_costsOf_42 ?_
      refine rr_ireturn (pc := 43) B Br dX9_costsOf_43 ⟨congrArg (fun z => some (aI z)) ?_, ?_⟩
      · unfold cst; first | (rw [if_pos (by omega)]; done) | (rw [if_neg (by omega), if_pos (by assumption)]; done) | (rw [if_neg (by omega), if_neg (by simp_all)]; done)
      · first | rfl | assumption
    · refine rr_aload0 (pc := 32) B dX9_costsOf_32 ?_
      refine rr_getR (pc := 33) B dX9_costsOf_33 fl_9_55 or_9_17 ?_
      refine rr_iconst (z := 0) (pc := 36) B dX9_costsOf_36 ?_
      refine rr_ialoadE (pc := 37) B dX9_costsOf_37 sa_60 (by omega) (HV 60 _ trivial) (fun b3 => ?_)
      refine rr_goto 42 (pc := 38) B dX9_costsOf_38 (by decide) ?_
      refine rr_iadd (pc := 42) B dX9_costsOf_42 ?_
      refine rr_ireturn (pc := 43) B Br dX9_costsOf_43 ⟨congrArg (fun z => some (aI z)) ?_, ?_⟩
      · unfold cst; first | (rw [if_pos (by omega)]; done) | (rw [if_neg (by omega), if_pos (by assumption)]; done) | (rw [if_neg (by omega), if_neg (by simp_all)]; done)
      · first | rfl | assumption
  · refine rr_bipush (z := (-3)) (pc := 13) B dX9_costsOf_13 (by decide) ?_
    refine rr_goto 43 (pc := 15) B dX9_costsOf_15 (by decide) ?_
    refine rr_ireturn (pc := 43) B Br dX9_costsOf_43 ⟨congrArg (fun z => some (aI z)) ?_, ?_⟩
    · unfold cst; first | (rw [if_pos (by omega)]; done) | (rw [if_neg (by omega), if_pos (by assumption)]; done) | (rw [if_neg (by omega), if_neg (by simp_all)]; done)
    · first | rfl | assumption
set_option maxHeartbeats 4000000 in
set_option maxRecDepth 100000 in
theorem ct_X9_worthBy (g : ax_G) (M : ax_M) (set : Int) (V : ax_M) (H0 : AgM V M) (H1 : 0 ≤ set ∧ set ≤ 2147483647) : CT g md_X9_worthBy 1 [aR 9, aI set] M (pI (wth V set) (M)) := by
  refine ct_intro 2 rfl rfl ?_
  intro X hg B Br
  subst hg
  show AW X 0 [some (aR 9), some (aI set), none, none] [] M
  refine rr_rg (fun G0 => ?_)
  have HV := H0
  have D8 : V 9 2 ≤ 8 := by have := G0.at ob_9_2.2.1; rw [HV 9 2 (Or.inl rfl)] at this; omega
  have D0 : 0 ≤ V 9 2 := by have := G0.at ob_9_2.2.1; rw [HV 9 2 (Or.inl rfl)] at this; omega
  have L : ∀ n : Nat, (∀ (s1 d : Int), (0 ≤ d ∧ d ≤ V 9 2) → (s1 = itI (fun d s => s + if tb set d = true then V 50 d else 0) 0 d) → (0 ≤ s1 ∧ s1 ≤ 9 * d) → ((8 - d).toNat) < n → AW X 4 [some (aR 9), some (aI set), some (aI s1), some (aI d)] [] M) ∧ True := by
    intro n
    induction n with
    | zero => exact ⟨by intros; omega, trivial⟩
    | succ n ih =>
      refine ⟨?_, trivial⟩
      · intro s1 d K0 K1 K2 hm
        refine rr_iload3 (pc := 4) B dX9_worthBy_4 ?_
        refine rr_aload0 (pc := 5) B dX9_worthBy_5 ?_
        refine rr_getIE (pc := 6) B dX9_worthBy_6 fl_9_107 ob_9_2 (HV 9 _ (Or.inl rfl)) (fun b1 => ?_)
        refine rr_icmp_ge 39 (pc := 9) B dX9_worthBy_9 (by decide) (by omega) (fun b2 => ?_) (fun b2 => ?_)
        · refine rr_iload2 (pc := 39) B dX9_worthBy_39 ?_
          refine rr_ireturn (pc := 40) B Br dX9_worthBy_40 ⟨congrArg (fun z => some (aI z)) ?_, ?_⟩
          · rw [K1, show d = V 9 2 by omega]; rfl
          · first | rfl | assumption
        · refine rr_iload2 (pc := 12) B dX9_worthBy_12 ?_
          refine rr_iload1 (pc := 13) B dX9_worthBy_13 ?_
          refine rr_iload3 (pc := 14) B dX9_worthBy_14 ?_
          refine rc_SI2 (pc := 15) B dX9_worthBy_15 st_X9_isIn lk_9_119 (ct_X9_isIn _ _ _ _  (by omega) (by omega)) (Nat.le_of_ble_eq_true rfl) (Nat.le_of_ble_eq_true rfl) ?_
          refine rr_if_eqB 30 (pc := 18) B dX9_worthBy_18 (by decide) (fun b3 => ?_) (fun b3 => ?_)
          · refine rr_iconst (z := 0) (pc := 30) B dX9_worthBy_30 ?_
            refine rr_iadd (pc := 31) B dX9_worthBy_31 ?_
            refine rr_istore2 (pc := 32) B dX9_worthBy_32 rfl ?_
            refine rr_iinc3 (z := 1) (pc := 33) B dX9_worthBy_33 rfl ?_
            refine rr_goto 4 (pc := 36) B dX9_worthBy_36 (by decide) ?_
            refine ih.1 _ _ ?_ ?_ ?_ ?_
            · omega
            · rw [itI_s _ _ (by omega), ← K1]; first | (rw [if_pos (by assumption)]; done) | (rw [if_neg (by simp_all)]; done)
            · omega
            · omega
          · refine rr_aload0 (pc := 21) B dX9_worthBy_21 ?_
            refine rr_getR (pc := 22) B dX9_worthBy_22 fl_9_25 or_9_6 ?_
            refine rr_iload3 (pc := 25) B dX9_worthBy_25 ?_
            refine rr_ialoadE (pc := 26) B dX9_worthBy_26 sa_50 (by omega) (HV 50 _ ⟨by omega, by omega⟩) (fun b4 => ?_)
            refine rr_goto 31 (pc := 27) B dX9_worthBy_27 (by decide) ?_
            refine rr_iadd (pc := 31) B dX9_worthBy_31 ?_
            refine rr_istore2 (pc := 32) B dX9_worthBy_32 rfl ?_
            refine rr_iinc3 (z := 1) (pc := 33) B dX9_worthBy_33 rfl ?_
            refine rr_goto 4 (pc := 36) B dX9_worthBy_36 (by decide) ?_
            refine ih.1 _ _ ?_ ?_ ?_ ?_
            · omega
            · rw [itI_s _ _ (by omega), ← K1]; first | (rw [if_pos (by assumption)]; done) | (rw [if_neg (by simp_all)]; done)
            · omega
            · omega
  refine rr_iconst (z := 0) (pc := 0) B dX9_worthBy_0 ?_
  refine rr_istore2 (pc := 1) B dX9_worthBy_1 rfl ?_
  refine rr_iconst (z := 0) (pc := 2) B dX9_worthBy_2 ?_
  refine rr_istore3 (pc := 3) B dX9_worthBy_3 rfl ?_
  refine (L _).1 _ _ ?_ ?_ ?_ (Nat.lt_succ_self _)
  · omega
  · rfl
  · omega
set_option maxHeartbeats 4000000 in
set_option maxRecDepth 100000 in
theorem ct_X9_askedOf (g : ax_G) (M : ax_M) (p h : Int) (V : ax_M) (H0 : AgM V M) (H1 : 0 ≤ p ∧ p ≤ 7) (H2 : 0 ≤ h ∧ h ≤ 7) : CT g md_X9_askedOf 3 [aR 9, aI p, aI h] M (pI (askd V p h) (M)) := by
  refine ct_intro 3 rfl rfl ?_
  intro X hg B Br
  subst hg
  show AW X 0 [some (aR 9), some (aI p), some (aI h), none, none, none] [] M
  refine rr_rg (fun G0 => ?_)
  have HV := H0
  have D8 : V 9 2 ≤ 8 := by have := G0.at ob_9_2.2.1; rw [HV 9 2 (Or.inl rfl)] at this; omega
  have D0 : 0 ≤ V 9 2 := by have := G0.at ob_9_2.2.1; rw [HV 9 2 (Or.inl rfl)] at this; omega
  have L : ∀ n : Nat, (∀ (n1 d : Int) (w5 : Option ax_V), (0 ≤ d ∧ d ≤ V 9 2) → (n1 = itI (fun d n => n + if cm V d h ≠ -3 ∧ tb (cm V d h) p = true then 1 else 0) 0 d) → (0 ≤ n1 ∧ n1 ≤ d) → ((8 - d).toNat) < n → AW X 5 [some (aR 9), some (aI p), some (aI h), some (aI n1), some (aI d), w5] [] M) ∧ True := by
    intro n
    induction n with
    | zero => exact ⟨by intros; omega, trivial⟩
    | succ n ih =>
      refine ⟨?_, trivial⟩
      · intro n1 d w5 K0 K1 K2 hm
        refine rr_iload4 (pc := 5) B dX9_askedOf_5 ?_
        refine rr_aload0 (pc := 7) B dX9_askedOf_7 ?_
        refine rr_getIE (pc := 8) B dX9_askedOf_8 fl_9_107 ob_9_2 (HV 9 _ (Or.inl rfl)) (fun b1 => ?_)
        refine rr_icmp_ge 53 (pc := 11) B dX9_askedOf_11 (by decide) (by omega) (fun b2 => ?_) (fun b2 => ?_)
        · refine rr_iload3 (pc := 53) B dX9_askedOf_53 ?_
          refine rr_ireturn (pc := 54) B Br dX9_askedOf_54 ⟨congrArg (fun z => some (aI z)) ?_, ?_⟩
          · rw [K1, show d = V 9 2 by omega]; rfl
          · first | rfl | assumption
        · refine rr_aload0 (pc := 14) B dX9_askedOf_14 ?_
          refine rr_iload4 (pc := 15) B dX9_askedOf_15 ?_
          refine rr_iload2 (pc := 17) B dX9_askedOf_17 ?_
          refine rc_VI2 (pc := 18) B dX9_askedOf_18 vm_X9_comesOf lk_9_173 so_9 rfl (ct_X9_comesOf _ _ _ _ _ (by first | assumption | omega) (by first | assumption | omega) (by first | assumption | omega)) (Nat.le_of_ble_eq_true rfl) (Nat.le_of_ble_eq_true rfl) ?_
          refine rr_istore5 (pc := 21) B dX9_askedOf_21 rfl ?_
          refine rr_iload3 (pc := 23) B dX9_askedOf_23 ?_
          refine rr_iload5 (pc := 24) B dX9_askedOf_24 ?_
          refine rr_bipush (z := (-3)) (pc := 26) B dX9_askedOf_26 (by decide) ?_
          refine rr_icmp_eq 44 (pc := 28) B dX9_askedOf_28 (by decide) (by have := cm_r V d h; omega) (fun b3 => ?_) (fun b3 => ?_)
          · refine rr_iconst (z := 0) (pc := 44) B dX9_askedOf_44 ?_
            refine rr_iadd (pc := 45) B dX9_askedOf_45 ?_
            refine rr_istore3 (pc := 46) B dX9_askedOf_46 rfl ?_
            refine rr_iinc4 (z := 1) (pc := 47) B dX9_askedOf_47 rfl ?_
            refine rr_goto 5 (pc := 50) B dX9_askedOf_50 (by decide) ?_
            refine ih.1 _ _ _ ?_ ?_ ?_ ?_
            · omega
            · rw [itI_s _ _ (by omega), ← K1]; first | (rw [if_pos ⟨by omega, by assumption⟩]; done) | (rw [if_neg (by rintro ⟨q1, q2⟩; first | omega | (simp_all; done))]; done)
            · omega
            · omega
          · refine rr_iload5 (pc := 31) B dX9_askedOf_31 ?_
            refine rr_iload1 (pc := 33) B dX9_askedOf_33 ?_
            refine rc_SI2 (pc := 34) B dX9_askedOf_34 st_X9_isIn lk_9_119 (ct_X9_isIn _ _ _ _  (by first | assumption | (have := cm_r V d h; omega)) (by first | assumption | (have := cm_r V d h; omega))) (Nat.le_of_ble_eq_true rfl) (Nat.le_of_ble_eq_true rfl) ?_
            refine rr_if_eqB 44 (pc := 37) B dX9_askedOf_37 (by decide) (fun b4 => ?_) (fun b4 => ?_)
            · refine rr_iconst (z := 0) (pc := 44) B dX9_askedOf_44 ?_
              refine rr_iadd (pc := 45) B dX9_askedOf_45 ?_
              refine rr_istore3 (pc := 46) B dX9_askedOf_46 rfl ?_
              refine rr_iinc4 (z := 1) (pc := 47) B dX9_askedOf_47 rfl ?_
              refine rr_goto 5 (pc := 50) B dX9_askedOf_50 (by decide) ?_
              refine ih.1 _ _ _ ?_ ?_ ?_ ?_
              · omega
              · rw [itI_s _ _ (by omega), ← K1]; first | (rw [if_pos ⟨by omega, by assumption⟩]; done) | (rw [if_neg (by rintro ⟨q1, q2⟩; first | omega | (simp_all; done))]; done)
              · omega
              · omega
            · refine rr_iconst (z := 1) (pc := 40) B dX9_askedOf_40 ?_
              refine rr_goto 45 (pc := 41) B dX9_askedOf_41 (by decide) ?_
              refine rr_iadd (pc := 45) B dX9_askedOf_45 ?_
              refine rr_istore3 (pc := 46) B dX9_askedOf_46 rfl ?_
              refine rr_iinc4 (z := 1) (pc := 47) B dX9_askedOf_47 rfl ?_
              refine rr_goto 5 (pc := 50) B dX9_askedOf_50 (by decide) ?_
              refine ih.1 _ _ _ ?_ ?_ ?_ ?_
              · omega
              · rw [itI_s _ _ (by omega), ← K1]; first | (rw [if_pos ⟨by omega, by assumption⟩]; done) | (rw [if_neg (by rintro ⟨q1, q2⟩; first | omega | (simp_all; done))]; done)
              · omega
              · omega
  refine rr_iconst (z := 0) (pc := 0) B dX9_askedOf_0 ?_
  refine rr_istore3 (pc := 1) B dX9_askedOf_1 rfl ?_
  refine rr_iconst (z := 0) (pc := 2) B dX9_askedOf_2 ?_
  refine rr_istore4 (pc := 3) B dX9_askedOf_3 rfl ?_
  refine (L _).1 _ _ _ ?_ ?_ ?_ (Nat.lt_succ_self _)
  · omega
  · rfl
  · omega
set_option maxHeartbeats 4000000 in
set_option maxRecDepth 100000 in
theorem ct_X9_likenessOf (g : ax_G) (M : ax_M) (d h : Int) (V : ax_M) (H0 : AgM V M) (H1 : 0 ≤ d ∧ d < V 9 2) (H2 : 0 ≤ h ∧ h ≤ 7) (H3 : 0 < V 51 d) : CT g md_X9_likenessOf 3 [aR 9, aI d, aI h] M (pI (lik V d h) (M)) := by
  refine ct_intro 2 rfl rfl ?_
  intro X hg B Br
  subst hg
  show AW X 0 [some (aR 9), some (aI d), some (aI h), none, none] [] M
  refine rr_rg (fun G0 => ?_)
  have HV := H0
  have D8 : V 9 2 ≤ 8 := by have := G0.at ob_9_2.2.1; rw [HV 9 2 (Or.inl rfl)] at this; omega
  have W1 := G0.at (sa_51.2.2 d); rw [HV 51 d ⟨by omega, by omega⟩] at W1
  have W2 := on_pos (b := V 51 d) (by omega)
  have W3 := on_r (V 51 d)
  have W4 := on_r (cm V d h)
  have L : ∀ n : Nat, (∀ (like : Int), (like = if V 59 h = V 49 d ∨ trn V d h = true then 1 else 0) → (cm V d h ≠ -3) → (like = 0 ∨ like = 1) → (0) < n → AW X 45 [some (aR 9), some (aI d), some (aI h), some (aI (cm V d h)), none] [aI like] M) ∧ True := by
    intro n
    induction n with
    | zero => exact ⟨by intros; omega, trivial⟩
    | succ n ih =>
      refine ⟨?_, trivial⟩
      · intro like K0 K1 K2 hm
        refine rr_istore4 (pc := 45) B dX9_likenessOf_45 rfl ?_
        refine rr_aload0 (pc := 47) B dX9_likenessOf_47 ?_
        refine rr_getR (pc := 48) B dX9_likenessOf_48 fl_9_37 or_9_11 ?_
        refine rr_aload0 (pc := 51) B dX9_likenessOf_51 ?_
        refine rr_getR (pc := 52) B dX9_likenessOf_52 fl_9_16 or_9_3 ?_
        refine rr_iload1 (pc := 55) B dX9_likenessOf_55 ?_
        refine rr_ialoadE (pc := 56) B dX9_likenessOf_56 sa_47 (by omega) (HV 47 _ ⟨by omega, by omega⟩) (fun b1 => ?_)
        refine rr_ialoadE (pc := 57) B dX9_likenessOf_57 sa_54 (by omega) (HV 54 _ ⟨by omega, by omega⟩) (fun b2 => ?_)
        refine rr_iconst (z := 1) (pc := 58) B dX9_likenessOf_58 ?_
        refine rr_icmp_ne 66 (pc := 59) B dX9_likenessOf_59 (by decide) (by omega) (fun b3 => ?_) (fun b3 => ?_)
        · refine rr_iconst (z := 0) (pc := 66) B dX9_likenessOf_66 ?_
          refine rr_iload4 (pc := 67) B dX9_likenessOf_67 ?_
          refine rr_if_eq 76 (pc := 69) B dX9_likenessOf_69 (by decide) (by omega) (fun b4 => ?_) (fun b4 => ?_)
          · refine rr_iconst (z := 0) (pc := 76) B dX9_likenessOf_76 ?_
            refine rr_iadd (pc := 77) B dX9_likenessOf_77 ?_
            refine rr_iconst (z := 3) (pc := 78) B dX9_likenessOf_78 ?_
            refine rr_iload3 (pc := 79) B dX9_likenessOf_79 ?_
            refine rc_SI1 (pc := 80) B dX9_likenessOf_80 st_X9_ones lk_9_164 (ct_X9_ones _ _ _  (by have := cm_r V d h; omega)) (Nat.le_of_ble_eq_true rfl) (Nat.le_of_ble_eq_true rfl) ?_
            refine rr_imul (pc := 83) B dX9_likenessOf_83 ?_
            refine rr_aload0 (pc := 84) B dX9_likenessOf_84 ?_
            refine rr_getR (pc := 85) B dX9_likenessOf_85 fl_9_28 or_9_7 ?_
            refine rr_iload1 (pc := 88) B dX9_likenessOf_88 ?_
            refine rr_ialoadE (pc := 89) B dX9_likenessOf_89 sa_51 (by omega) (HV 51 _ ⟨by omega, by omega⟩) (fun b5 => ?_)
            refine rc_SI1 (pc := 90) B dX9_likenessOf_90 st_X9_ones lk_9_164 (ct_X9_ones _ _ _  (by omega)) (Nat.le_of_ble_eq_true rfl) (Nat.le_of_ble_eq_true rfl) ?_
            refine rr_idiv (pc := 93) B dX9_likenessOf_93 (by omega) ?_
            refine rr_iadd (pc := 94) B dX9_likenessOf_94 ?_
            refine rr_ireturn (pc := 95) B Br dX9_likenessOf_95 ⟨congrArg (fun z => some (aI z)) ?_, ?_⟩
            · unfold lik; rw [if_neg (by omega)]; first | rw [if_pos (by omega)] | rw [if_neg (by omega)]
              by_cases q : V 59 h = V 49 d ∨ trn V d h = true
              · rw [if_pos q] at K0 ⊢ <;> omega
              · rw [if_neg q] at K0 ⊢ <;> omega
            · first | rfl | assumption
          · refine rr_iconst (z := 3) (pc := 72) B dX9_likenessOf_72 ?_
            refine rr_goto 77 (pc := 73) B dX9_likenessOf_73 (by decide) ?_
            refine rr_iadd (pc := 77) B dX9_likenessOf_77 ?_
            refine rr_iconst (z := 3) (pc := 78) B dX9_likenessOf_78 ?_
            refine rr_iload3 (pc := 79) B dX9_likenessOf_79 ?_
            refine rc_SI1 (pc := 80) B dX9_likenessOf_80 st_X9_ones lk_9_164 (ct_X9_ones _ _ _  (by have := cm_r V d h; omega)) (Nat.le_of_ble_eq_true rfl) (Nat.le_of_ble_eq_true rfl) ?_
            refine rr_imul (pc := 83) B dX9_likenessOf_83 ?_
            refine rr_aload0 (pc := 84) B dX9_likenessOf_84 ?_
            refine rr_getR (pc := 85) B dX9_likenessOf_85 fl_9_28 or_9_7 ?_
            refine rr_iload1 (pc := 88) B dX9_likenessOf_88 ?_
            refine rr_ialoadE (pc := 89) B dX9_likenessOf_89 sa_51 (by omega) (HV 51 _ ⟨by omega, by omega⟩) (fun b5 => ?_)
            refine rc_SI1 (pc := 90) B dX9_likenessOf_90 st_X9_ones lk_9_164 (ct_X9_ones _ _ _  (by omega)) (Nat.le_of_ble_eq_true rfl) (Nat.le_of_ble_eq_true rfl) ?_
            refine rr_idiv (pc := 93) B dX9_likenessOf_93 (by omega) ?_
            refine rr_iadd (pc := 94) B dX9_likenessOf_94 ?_
            refine rr_ireturn (pc := 95) B Br dX9_likenessOf_95 ⟨congrArg (fun z => some (aI z)) ?_, ?_⟩
            · unfold lik; rw [if_neg (by omega)]; first | rw [if_pos (by omega)] | rw [if_neg (by omega)]
              by_cases q : V 59 h = V 49 d ∨ trn V d h = true
              · rw [if_pos q] at K0 ⊢ <;> omega
              · rw [if_neg q] at K0 ⊢ <;> omega
            · first | rfl | assumption
        · refine rr_iconst (z := 4) (pc := 62) B dX9_likenessOf_62 ?_
          refine rr_goto 67 (pc := 63) B dX9_likenessOf_63 (by decide) ?_
          refine rr_iload4 (pc := 67) B dX9_likenessOf_67 ?_
          refine rr_if_eq 76 (pc := 69) B dX9_likenessOf_69 (by decide) (by omega) (fun b4 => ?_) (fun b4 => ?_)
          · refine rr_iconst (z := 0) (pc := 76) B dX9_likenessOf_76 ?_
            refine rr_iadd (pc := 77) B dX9_likenessOf_77 ?_
            refine rr_iconst (z := 3) (pc := 78) B dX9_likenessOf_78 ?_
            refine rr_iload3 (pc := 79) B dX9_likenessOf_79 ?_
            refine rc_SI1 (pc := 80) B dX9_likenessOf_80 st_X9_ones lk_9_164 (ct_X9_ones _ _ _  (by have := cm_r V d h; omega)) (Nat.le_of_ble_eq_true rfl) (Nat.le_of_ble_eq_true rfl) ?_
            refine rr_imul (pc := 83) B dX9_likenessOf_83 ?_
            refine rr_aload0 (pc := 84) B dX9_likenessOf_84 ?_
            refine rr_getR (pc := 85) B dX9_likenessOf_85 fl_9_28 or_9_7 ?_
            refine rr_iload1 (pc := 88) B dX9_likenessOf_88 ?_
            refine rr_ialoadE (pc := 89) B dX9_likenessOf_89 sa_51 (by omega) (HV 51 _ ⟨by omega, by omega⟩) (fun b5 => ?_)
            refine rc_SI1 (pc := 90) B dX9_likenessOf_90 st_X9_ones lk_9_164 (ct_X9_ones _ _ _  (by omega)) (Nat.le_of_ble_eq_true rfl) (Nat.le_of_ble_eq_true rfl) ?_
            refine rr_idiv (pc := 93) B dX9_likenessOf_93 (by omega) ?_
            refine rr_iadd (pc := 94) B dX9_likenessOf_94 ?_
            refine rr_ireturn (pc := 95) B Br dX9_likenessOf_95 ⟨congrArg (fun z => some (aI z)) ?_, ?_⟩
            · unfold lik; rw [if_neg (by omega)]; first | rw [if_pos (by omega)] | rw [if_neg (by omega)]
              by_cases q : V 59 h = V 49 d ∨ trn V d h = true
              · rw [if_pos q] at K0 ⊢ <;> omega
              · rw [if_neg q] at K0 ⊢ <;> omega
            · first | rfl | assumption
          · refine rr_iconst (z := 3) (pc := 72) B dX9_likenessOf_72 ?_
            refine rr_goto 77 (pc := 73) B dX9_likenessOf_73 (by decide) ?_
            refine rr_iadd (pc := 77) B dX9_likenessOf_77 ?_
            refine rr_iconst (z := 3) (pc := 78) B dX9_likenessOf_78 ?_
            refine rr_iload3 (pc := 79) B dX9_likenessOf_79 ?_
            refine rc_SI1 (pc := 80) B dX9_likenessOf_80 st_X9_ones lk_9_164 (ct_X9_ones _ _ _  (by have := cm_r V d h; omega)) (Nat.le_of_ble_eq_true rfl) (Nat.le_of_ble_eq_true rfl) ?_
            refine rr_imul (pc := 83) B dX9_likenessOf_83 ?_
            refine rr_aload0 (pc := 84) B dX9_likenessOf_84 ?_
            refine rr_getR (pc := 85) B dX9_likenessOf_85 fl_9_28 or_9_7 ?_
            refine rr_iload1 (pc := 88) B dX9_likenessOf_88 ?_
            refine rr_ialoadE (pc := 89) B dX9_likenessOf_89 sa_51 (by omega) (HV 51 _ ⟨by omega, by omega⟩) (fun b5 => ?_)
            refine rc_SI1 (pc := 90) B dX9_likenessOf_90 st_X9_ones lk_9_164 (ct_X9_ones _ _ _  (by omega)) (Nat.le_of_ble_eq_true rfl) (Nat.le_of_ble_eq_true rfl) ?_
            refine rr_idiv (pc := 93) B dX9_likenessOf_93 (by omega) ?_
            refine rr_iadd (pc := 94) B dX9_likenessOf_94 ?_
            refine rr_ireturn (pc := 95) B Br dX9_likenessOf_95 ⟨congrArg (fun z => some (aI z)) ?_, ?_⟩
            · unfold lik; rw [if_neg (by omega)]; first | rw [if_pos (by omega)] | rw [if_neg (by omega)]
              by_cases q : V 59 h = V 49 d ∨ trn V d h = true
              · rw [if_pos q] at K0 ⊢ <;> omega
              · rw [if_neg q] at K0 ⊢ <;> omega
            · first | rfl | assumption
  refine rr_aload0 (pc := 0) B dX9_likenessOf_0 ?_
  refine rr_iload1 (pc := 1) B dX9_likenessOf_1 ?_
  refine rr_iload2 (pc := 2) B dX9_likenessOf_2 ?_
  refine rc_VI2 (pc := 3) B dX9_likenessOf_3 vm_X9_comesOf lk_9_173 so_9 rfl (ct_X9_comesOf _ _ _ _ _ (by omega) (by omega) (by omega)) (Nat.le_of_ble_eq_true rfl) (Nat.le_of_ble_eq_true rfl) ?_
  refine rr_istore3 (pc := 6) B dX9_likenessOf_6 rfl ?_
  refine rr_iload3 (pc := 7) B dX9_likenessOf_7 ?_
  refine rr_bipush (z := (-3)) (pc := 8) B dX9_likenessOf_8 (by decide) ?_
  refine rr_icmp_ne 16 (pc := 10) B dX9_likenessOf_10 (by decide) (by have := cm_r V d h; omega) (fun b1 => ?_) (fun b1 => ?_)
  · refine rr_aload0 (pc := 16) B dX9_likenessOf_16 ?_
    refine rr_getR (pc := 17) B dX9_likenessOf_17 fl_9_52 or_9_16 ?_
    refine rr_iload2 (pc := 20) B dX9_likenessOf_20 ?_
    refine rr_ialoadE (pc := 21) B dX9_likenessOf_21 sa_59 (by omega) (HV 59 _ trivial) (fun b2 => ?_)
    refine rr_aload0 (pc := 22) B dX9_likenessOf_22 ?_
    refine rr_getR (pc := 23) B dX9_likenessOf_23 fl_9_22 or_9_5 ?_
    refine rr_iload1 (pc := 26) B dX9_likenessOf_26 ?_
    refine rr_ialoadE (pc := 27) B dX9_likenessOf_27 sa_49 (by omega) (HV 49 _ ⟨by omega, by omega⟩) (fun b3 => ?_)
    refine rr_icmp_eq 40 (pc := 28) B dX9_likenessOf_28 (by decide) (by omega) (fun b4 => ?_) (fun b4 => ?_)
    · refine rr_iconst (z := 1) (pc := 40) B dX9_likenessOf_40 ?_
      refine rr_goto 45 (pc := 41) B dX9_likenessOf_41 (by decide) ?_
      refine (L _).1 _ ?_ ?_ ?_ (Nat.lt_succ_self _)
      · first | (rw [if_pos (Or.inl (by omega))]; done) | (rw [if_pos (Or.inr (by assumption))]; done) | (rw [if_neg (by rintro (q | q); omega; simp_all)]; done)
      · omega
      · omega
    · refine rr_aload0 (pc := 31) B dX9_likenessOf_31 ?_
      refine rr_iload1 (pc := 32) B dX9_likenessOf_32 ?_
      refine rr_iload2 (pc := 33) B dX9_likenessOf_33 ?_
      refine rc_VI2 (pc := 34) B dX9_likenessOf_34 vm_X9_isTurned lk_9_167 so_9 rfl (ct_X9_isTurned _ _ _ _ _ (by omega) (by omega) (by omega)) (Nat.le_of_ble_eq_true rfl) (Nat.le_of_ble_eq_true rfl) ?_
      refine rr_if_eqB 44 (pc := 37) B dX9_likenessOf_37 (by decide) (fun b5 => ?_) (fun b5 => ?_)
      · refine rr_iconst (z := 0) (pc := 44) B dX9_likenessOf_44 ?_
        refine (L _).1 _ ?_ ?_ ?_ (Nat.lt_succ_self _)
        · first | (rw [if_pos (Or.inl (by omega))]; done) | (rw [if_pos (Or.inr (by assumption))]; done) | (rw [if_neg (by rintro (q | q); omega; simp_all)]; done)
        · omega
        · omega
      · refine rr_iconst (z := 1) (pc := 40) B dX9_likenessOf_40 ?_
        refine rr_goto 45 (pc := 41) B dX9_likenessOf_41 (by decide) ?_
        refine (L _).1 _ ?_ ?_ ?_ (Nat.lt_succ_self _)
        · first | (rw [if_pos (Or.inl (by omega))]; done) | (rw [if_pos (Or.inr (by assumption))]; done) | (rw [if_neg (by rintro (q | q); omega; simp_all)]; done)
        · omega
        · omega
  · refine rr_bipush (z := (-3)) (pc := 13) B dX9_likenessOf_13 (by decide) ?_
    refine rr_ireturn (pc := 15) B Br dX9_likenessOf_15 ⟨congrArg (fun z => some (aI z)) ?_, ?_⟩
    · unfold lik; rw [if_pos (by omega)]
    · first | rfl | assumption
