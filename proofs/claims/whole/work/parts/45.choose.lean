theorem nohour (V : ax_M) (h : Int) (h0 : 0 ≤ h) (hn : 0 ≤ V 9 2) : hsR (fun _ => -1) h (V 9 2) = 0 := tb_ext (hsR_0 _ _ _ hn) (by omega) (fun k hk => by
  rw [tb_0]
  cases q : tb (hsR (fun _ => -1) h (V 9 2)) k with
  | false => rfl
  | true =>
    have z := ((hsR_tb _ h hn hk).mp q).2
    exact absurd z (by show ¬ (-1 : Int) = h; omega))
theorem noplan (V : ax_M) (hn : 0 ≤ V 9 2) : tot (V 9 2) (vC V) 8 (fun _ => -1) = 0 := itI_inv (fun _ x => x = 0) (p := 8) (by decide) rfl (fun i x a _ q => by
  show x + vC V i (hsR (fun _ => -1) i (V 9 2)) = 0
  rw [nohour V i a hn, vC_0 i hn, q]; rfl)
theorem wth0 (V : ax_M) (hn : 0 ≤ V 9 2) : (0 : Int) = wth V 0 := (itI_inv (fun _ x => x = 0) hn rfl (fun i x _ _ q => by
  show x + (if tb 0 i = true then _ else 0) = 0
  rw [tb_0, q]; rfl)).symm
set_option maxHeartbeats 16000000 in
set_option maxRecDepth 100000 in
theorem ct_X4_choose (g : ax_G) (M : ax_M) (V : ax_M) (H0 : AgC V M) (H1 : M 4 7 = hopD V (V 9 2)) (H2 : isLs (V 9 2) (vC V) (okC V) NV 8 (lsC V M)) (H3 : ∀ u, 0 ≤ u → u ≤ hopD V (V 9 2) → nD u (hopD V (V 9 2)) ≠ 0 → M 27 u = NV) : CT g md_X4_choose 2 [aR 4] M (pVR (fun M2 => RPl V M2 ∧ frm exW M M2)) := by
  refine ct_intro 6 rfl rfl ?_
  intro X hg B Br
  subst hg
  show AW X 0 [some (aR 4), none, none, none, none, none, none] [] M
  refine rr_rg (fun G0 => ?_)
  have HC := H0
  have N8 : 0 ≤ V 9 2 ∧ V 9 2 ≤ 8 := by have := G0.at ob_0_6.2.1; rw [HC.1] at this; exact this
  have P57 : ∀ p, 0 ≤ p → p < 8 → 0 ≤ V 57 p ∧ V 57 p ≤ 99 := fun p a b => by have := G0.at (sa_15.2.2 (p * 4 + 2)); rw [(HC.2.2.1 p a (by omega)).2.2.1] at this; exact this
  have A8 := hop_r V N8
  have AL := hop_lt V N8
  have R99 : 0 ≤ V 60 0 ∧ V 60 0 ≤ 999 := by have := G0.at (sa_17.2.2 0); rw [HC.2.2.2.2.1 0 (by decide) (by decide)] at this; exact this
  have R2 : 0 ≤ V 60 2 ∧ V 60 2 ≤ 999 := by have := G0.at (sa_17.2.2 2); rw [HC.2.2.2.2.1 2 (by decide) (by decide)] at this; exact this
  have W13 : ∀ d, 0 ≤ d → d < V 9 2 → 0 ≤ V 50 d ∧ V 50 d ≤ 9 := fun d a b => by have := G0.at (sa_13.2.2 d); rw [(HC.2.1 d a b).2.2.2.1] at this; exact this
  have Z27 : M 27 0 = 0 := by
    have z := (H2 0 (by omega) (p2_pos _)).1 (fun _ => -1) ⟨fun d _ _ => (by show -1 ≤ (-1 : Int) ∧ (-1 : Int) < 8; omega), fun d _ _ => (by rw [tb_0]; constructor; intro q; exact absurd q (by show ¬ (0 : Int) ≤ -1; omega); intro q; cases q), fun h a b => by rw [nohour V h a N8.1]; exact okT_0 h N8.1⟩
    rw [noplan V N8.1, show lsC V M 0 = M 27 0 from if_pos (by unfold nD; simp)] at z
    have := G0.at (sa_27.2.2 0)
    omega
  have LIMr : 43046721 ≤ (V 60 2 + 1) * 43046721 ∧ (V 60 2 + 1) * 43046721 ≤ 43046721000 := by omega
  have L : ∀ nn : Nat, (∀ (M1 : ax_M) (c s : Int) (w5 w6 : Option ax_V), (1 ≤ s ∧ s ≤ hopD V (V 9 2) + 1) → (frm exW M M1) → ((0 ≤ c ∧ c ≤ hopD V (V 9 2)) ∧ M 27 c < (V 60 2 + 1) * 43046721) → (M1 4 1 = wth V c) → (∀ u, 0 ≤ u → u < s → M 27 u < (V 60 2 + 1) * 43046721 → wth V u < wth V c ∨ wth V u = wth V c ∧ M 27 c ≤ M 27 u) → ((1000 - s).toNat) < nn → AW X 30 [some (aR 4), some (aL ((V 60 2 + 1) * 43046721)), none, some (aI c), some (aI s), w5, w6] [] M1) ∧ (∀ (M1 : ax_M) (c d : Int) (w5 w6 : Option ax_V), (0 ≤ d ∧ d ≤ 8) → (frm exW M M1) → ((0 ≤ c ∧ c ≤ hopD V (V 9 2)) ∧ M 27 c < (V 60 2 + 1) * 43046721) → (M1 4 1 = wth V c ∧ M1 4 2 = M 27 c / 43046721) → (∀ e, 0 ≤ e → e < d → M1 26 e = M 27 c / wq e % 9 - 1) → (∃ r, IsMost V r ∧ wR V r = wth V c ∧ M 27 c = cR V r * 43046721 + codR V r ∧ 0 ≤ cR V r ∧ ∀ d, 0 ≤ d → d < V 9 2 → -1 ≤ r d ∧ r d ≤ 7) → ((100 - d).toNat) < nn → AW X 145 [some (aR 4), some (aL ((V 60 2 + 1) * 43046721)), none, some (aI c), some (aI d), w5, w6] [] M1) ∧ True := by
    intro nn
    induction nn with
    | zero => exact ⟨by intros; omega, by intros; omega, trivial⟩
    | succ nn ih =>
      refine ⟨?_, ?_, trivial⟩
      · intro M1 c s w5 w6 K0 K1 K2 K3 K4 hm
        refine rr_rg (fun G1 => ?_)
        have HC1 := agc_Q H0 (frm_mono K1 exW_Q)
        have WR := wth_r V s N8 W13
        have WRc := wth_r V c N8 W13
        refine rr_iload4 (pc := 30) B dX4_choose_30 ?_
        refine rr_aload0 (pc := 32) B dX4_choose_32 ?_
        refine rr_getIE (pc := 33) B dX4_choose_33 fl_4_36 ob_4_7 ((K1 4 7 rfl).trans H1) (fun b1 => ?_)
        refine rr_icmp_gt 127 (pc := 36) B dX4_choose_36 (by decide) (by omega) (fun b2 => ?_) (fun b2 => ?_)
        · refine rr_aload0 (pc := 127) B dX4_choose_127 ?_
          refine rr_aload0 (pc := 128) B dX4_choose_128 ?_
          refine rr_getR (pc := 129) B dX4_choose_129 fl_4_22 or_4_4 ?_
          refine rr_iload3 (pc := 132) B dX4_choose_132 ?_
          refine rr_laloadE (pc := 133) B dX4_choose_133 sa_27 (by omega) (K1 27 _ rfl) (fun b3 => ?_)
          refine rr_ldc2 (z := 43046721) (pc := 134) B dX4_choose_134 cn_4_71 (by decide) ?_
          refine rr_ldiv (pc := 137) B dX4_choose_137 (by have := G0.at (sa_27.2.2 c); omega) ?_
          refine rr_l2i (pc := 138) B dX4_choose_138 (by have := G0.at (sa_27.2.2 c); omega) ?_
          refine rr_putI (pc := 139) B dX4_choose_139 fl_4_113 ob_4_2 fi_4_2 (by have := G0.at (sa_27.2.2 c); omega) ?_
          refine rr_iconst (z := 0) (pc := 142) B dX4_choose_142 ?_
          refine rr_istore4 (pc := 143) B dX4_choose_143 rfl ?_
          refine ih.2.1 _ _ _ _ _ ?_ ?_ ?_ ?_ ?_ ?_ ?_
          · omega
          · exact frm_ms K1 (by decide)
          · exact K2
          · exact ⟨K3, ms_at _ _ _ _⟩
          · intro e a b; omega
          · have cA : nD c (hopD V (V 9 2)) = 0 := by
              rcases Classical.em (nD c (hopD V (V 9 2)) = 0) with q | q
              · exact q
              · have := H3 c (by omega) (by omega) q; unfold NV at this; omega
            have fc : lsC V M c = M 27 c := if_pos cA
            obtain ⟨r, r1, r2, r3, r4, r5⟩ := most_of N8 P57 R99 R2 H2 (c := c) (by omega) (by rw [fc]; exact K2.2) (fun u a b q => by
              have uA : nD u (hopD V (V 9 2)) = 0 := by
                rcases Classical.em (nD u (hopD V (V 9 2)) = 0) with z | z
                · exact z
                · rw [show lsC V M u = NV from if_neg z] at q; unfold NV at q; omega
              rw [show lsC V M u = M 27 u from if_pos uA] at q ⊢
              rw [fc]
              have := sub_le A8.1 a ((nD_z a).mp uA)
              exact K4 u a (by omega) q)
            rw [fc] at r3
            exact ⟨r, r1, r2, r3, r4, r5⟩
          · omega
        · refine rr_aload0 (pc := 39) B dX4_choose_39 ?_
          refine rr_getR (pc := 40) B dX4_choose_40 fl_4_18 or_4_3 ?_
          refine rr_getR (pc := 43) B dX4_choose_43 fl_4_77 or_2_0 ?_
          refine rr_iload4 (pc := 46) B dX4_choose_46 ?_
          refine rc_VI1 (pc := 48) B dX4_choose_48 vm_X0_worthOf lk_4_110 so_0 rfl (ct_X0_worthOf _ _ _  (by omega)) (Nat.le_of_ble_eq_true rfl) (Nat.le_of_ble_eq_true rfl) ?_
          refine rr_istore5 (pc := 51) B dX4_choose_51 rfl ?_
          have WE := wof_eq (t := s) HC1
          refine rr_iload5 (pc := 53) B dX4_choose_53 ?_
          refine rr_aload0 (pc := 55) B dX4_choose_55 ?_
          refine rr_getIE (pc := 56) B dX4_choose_56 fl_4_107 ob_4_1 (K3) (fun b3 => ?_)
          refine rr_icmp_gt 88 (pc := 59) B dX4_choose_59 (by decide) (by omega) (fun b4 => ?_) (fun b4 => ?_)
          · refine rr_iconst (z := 1) (pc := 88) B dX4_choose_88 ?_
            refine rr_goto 93 (pc := 89) B dX4_choose_89 (by decide) ?_
            refine rr_istore6 (pc := 93) B dX4_choose_93 rfl ?_
            refine rr_aload0 (pc := 95) B dX4_choose_95 ?_
            refine rr_getR (pc := 96) B dX4_choose_96 fl_4_22 or_4_4 ?_
            refine rr_iload4 (pc := 99) B dX4_choose_99 ?_
            refine rr_laloadE (pc := 101) B dX4_choose_101 sa_27 (by omega) (K1 27 _ rfl) (fun b5 => ?_)
            refine rr_lload1 (pc := 102) B dX4_choose_102 ?_
            refine rr_lcmp_ge 121 (pc := 103) B dX4_choose_103 dX4_choose_104 (by decide) (by have := G0.at (sa_27.2.2 s); omega) (fun b6 => ?_) (fun b6 => ?_)
            · refine rr_iinc4 (z := 1) (pc := 121) B dX4_choose_121 rfl ?_
              refine rr_goto 30 (pc := 124) B dX4_choose_124 (by decide) ?_
              refine ih.1 _ _ _ _ _ ?_ ?_ ?_ ?_ ?_ ?_
              · omega
              · first | exact K1 | exact frm_ms K1 (by decide)
              · first | exact K2 | exact ⟨by omega, by assumption⟩
              · first | exact K3 | (rw [ms_at]; exact WE)
              · intro u a b q
                rcases Int.lt_or_eq_of_le (show u ≤ s by omega) with z | z
                · have y := K4 u a z q; omega
                · subst z; omega
              · omega
            · refine rr_iload6 (pc := 107) B dX4_choose_107 ?_
              refine rr_if_eq 121 (pc := 109) B dX4_choose_109 (by decide) (by omega) (fun b7 => absurd b7 (by omega)) (fun b7 => ?_)
              refine rr_iload4 (pc := 112) B dX4_choose_112 ?_
              refine rr_istore3 (pc := 114) B dX4_choose_114 rfl ?_
              refine rr_aload0 (pc := 115) B dX4_choose_115 ?_
              refine rr_iload5 (pc := 116) B dX4_choose_116 ?_
              refine rr_putI (pc := 118) B dX4_choose_118 fl_4_107 ob_4_1 fi_4_1 (by omega) ?_
              refine rr_iinc4 (z := 1) (pc := 121) B dX4_choose_121 rfl ?_
              refine rr_goto 30 (pc := 124) B dX4_choose_124 (by decide) ?_
              refine ih.1 _ _ _ _ _ ?_ ?_ ?_ ?_ ?_ ?_
              · omega
              · first | exact K1 | exact frm_ms K1 (by decide)
              · first | exact K2 | exact ⟨by omega, by assumption⟩
              · first | exact K3 | (rw [ms_at]; exact WE)
              · intro u a b q
                rcases Int.lt_or_eq_of_le (show u ≤ s by omega) with z | z
                · have y := K4 u a z q; omega
                · subst z; omega
              · omega
          · refine rr_iload5 (pc := 62) B dX4_choose_62 ?_
            refine rr_aload0 (pc := 64) B dX4_choose_64 ?_
            refine rr_getIE (pc := 65) B dX4_choose_65 fl_4_107 ob_4_1 (K3) (fun b5 => ?_)
            refine rr_icmp_ne 92 (pc := 68) B dX4_choose_68 (by decide) (by omega) (fun b6 => ?_) (fun b6 => ?_)
            · refine rr_iconst (z := 0) (pc := 92) B dX4_choose_92 ?_
              refine rr_istore6 (pc := 93) B dX4_choose_93 rfl ?_
              refine rr_aload0 (pc := 95) B dX4_choose_95 ?_
              refine rr_getR (pc := 96) B dX4_choose_96 fl_4_22 or_4_4 ?_
              refine rr_iload4 (pc := 99) B dX4_choose_99 ?_
              refine rr_laloadE (pc := 101) B dX4_choose_101 sa_27 (by omega) (K1 27 _ rfl) (fun b7 => ?_)
              refine rr_lload1 (pc := 102) B dX4_choose_102 ?_
              refine rr_lcmp_ge 121 (pc := 103) B dX4_choose_103 dX4_choose_104 (by decide) (by have := G0.at (sa_27.2.2 s); omega) (fun b8 => ?_) (fun b8 => ?_)
              · refine rr_iinc4 (z := 1) (pc := 121) B dX4_choose_121 rfl ?_
                refine rr_goto 30 (pc := 124) B dX4_choose_124 (by decide) ?_
                refine ih.1 _ _ _ _ _ ?_ ?_ ?_ ?_ ?_ ?_
                · omega
                · first | exact K1 | exact frm_ms K1 (by decide)
                · first | exact K2 | exact ⟨by omega, by assumption⟩
                · first | exact K3 | (rw [ms_at]; exact WE)
                · intro u a b q
                  rcases Int.lt_or_eq_of_le (show u ≤ s by omega) with z | z
                  · have y := K4 u a z q; omega
                  · subst z; omega
                · omega
              · refine rr_iload6 (pc := 107) B dX4_choose_107 ?_
                refine rr_if_eq 121 (pc := 109) B dX4_choose_109 (by decide) (by omega) (fun b9 => ?_) (fun b9 => absurd b9 (by omega))
                refine rr_iinc4 (z := 1) (pc := 121) B dX4_choose_121 rfl ?_
                refine rr_goto 30 (pc := 124) B dX4_choose_124 (by decide) ?_
                refine ih.1 _ _ _ _ _ ?_ ?_ ?_ ?_ ?_ ?_
                · omega
                · first | exact K1 | exact frm_ms K1 (by decide)
                · first | exact K2 | exact ⟨by omega, by assumption⟩
                · first | exact K3 | (rw [ms_at]; exact WE)
                · intro u a b q
                  rcases Int.lt_or_eq_of_le (show u ≤ s by omega) with z | z
                  · have y := K4 u a z q; omega
                  · subst z; omega
                · omega
            · refine rr_aload0 (pc := 71) B dX4_choose_71 ?_
              refine rr_getR (pc := 72) B dX4_choose_72 fl_4_22 or_4_4 ?_
              refine rr_iload4 (pc := 75) B dX4_choose_75 ?_
              refine rr_laloadE (pc := 77) B dX4_choose_77 sa_27 (by omega) (K1 27 _ rfl) (fun b7 => ?_)
              refine rr_aload0 (pc := 78) B dX4_choose_78 ?_
              refine rr_getR (pc := 79) B dX4_choose_79 fl_4_22 or_4_4 ?_
              refine rr_iload3 (pc := 82) B dX4_choose_82 ?_
              refine rr_laloadE (pc := 83) B dX4_choose_83 sa_27 (by omega) (K1 27 _ rfl) (fun b8 => ?_)
              refine rr_lcmp_ge 92 (pc := 84) B dX4_choose_84 dX4_choose_85 (by decide) (by have := G0.at (sa_27.2.2 s); have := G0.at (sa_27.2.2 c); omega) (fun b9 => ?_) (fun b9 => ?_)
              · refine rr_iconst (z := 0) (pc := 92) B dX4_choose_92 ?_
                refine rr_istore6 (pc := 93) B dX4_choose_93 rfl ?_
                refine rr_aload0 (pc := 95) B dX4_choose_95 ?_
                refine rr_getR (pc := 96) B dX4_choose_96 fl_4_22 or_4_4 ?_
                refine rr_iload4 (pc := 99) B dX4_choose_99 ?_
                refine rr_laloadE (pc := 101) B dX4_choose_101 sa_27 (by omega) (K1 27 _ rfl) (fun b10 => ?_)
                refine rr_lload1 (pc := 102) B dX4_choose_102 ?_
                refine rr_lcmp_ge 121 (pc := 103) B dX4_choose_103 dX4_choose_104 (by decide) (by have := G0.at (sa_27.2.2 s); omega) (fun b11 => ?_) (fun b11 => ?_)
                · refine rr_iinc4 (z := 1) (pc := 121) B dX4_choose_121 rfl ?_
                  refine rr_goto 30 (pc := 124) B dX4_choose_124 (by decide) ?_
                  refine ih.1 _ _ _ _ _ ?_ ?_ ?_ ?_ ?_ ?_
                  · omega
                  · first | exact K1 | exact frm_ms K1 (by decide)
                  · first | exact K2 | exact ⟨by omega, by assumption⟩
                  · first | exact K3 | (rw [ms_at]; exact WE)
                  · intro u a b q
                    rcases Int.lt_or_eq_of_le (show u ≤ s by omega) with z | z
                    · have y := K4 u a z q; omega
                    · subst z; omega
                  · omega
                · refine rr_iload6 (pc := 107) B dX4_choose_107 ?_
                  refine rr_if_eq 121 (pc := 109) B dX4_choose_109 (by decide) (by omega) (fun b12 => ?_) (fun b12 => absurd b12 (by omega))
                  refine rr_iinc4 (z := 1) (pc := 121) B dX4_choose_121 rfl ?_
                  refine rr_goto 30 (pc := 124) B dX4_choose_124 (by decide) ?_
                  refine ih.1 _ _ _ _ _ ?_ ?_ ?_ ?_ ?_ ?_
                  · omega
                  · first | exact K1 | exact frm_ms K1 (by decide)
                  · first | exact K2 | exact ⟨by omega, by assumption⟩
                  · first | exact K3 | (rw [ms_at]; exact WE)
                  · intro u a b q
                    rcases Int.lt_or_eq_of_le (show u ≤ s by omega) with z | z
                    · have y := K4 u a z q; omega
                    · subst z; omega
                  · omega
              · refine rr_iconst (z := 1) (pc := 88) B dX4_choose_88 ?_
                refine rr_goto 93 (pc := 89) B dX4_choose_89 (by decide) ?_
                refine rr_istore6 (pc := 93) B dX4_choose_93 rfl ?_
                refine rr_aload0 (pc := 95) B dX4_choose_95 ?_
                refine rr_getR (pc := 96) B dX4_choose_96 fl_4_22 or_4_4 ?_
                refine rr_iload4 (pc := 99) B dX4_choose_99 ?_
                refine rr_laloadE (pc := 101) B dX4_choose_101 sa_27 (by omega) (K1 27 _ rfl) (fun b10 => ?_)
                refine rr_lload1 (pc := 102) B dX4_choose_102 ?_
                refine rr_lcmp_ge 121 (pc := 103) B dX4_choose_103 dX4_choose_104 (by decide) (by have := G0.at (sa_27.2.2 s); omega) (fun b11 => ?_) (fun b11 => ?_)
                · refine rr_iinc4 (z := 1) (pc := 121) B dX4_choose_121 rfl ?_
                  refine rr_goto 30 (pc := 124) B dX4_choose_124 (by decide) ?_
                  refine ih.1 _ _ _ _ _ ?_ ?_ ?_ ?_ ?_ ?_
                  · omega
                  · first | exact K1 | exact frm_ms K1 (by decide)
                  · first | exact K2 | exact ⟨by omega, by assumption⟩
                  · first | exact K3 | (rw [ms_at]; exact WE)
                  · intro u a b q
                    rcases Int.lt_or_eq_of_le (show u ≤ s by omega) with z | z
                    · have y := K4 u a z q; omega
                    · subst z; omega
                  · omega
                · refine rr_iload6 (pc := 107) B dX4_choose_107 ?_
                  refine rr_if_eq 121 (pc := 109) B dX4_choose_109 (by decide) (by omega) (fun b12 => absurd b12 (by omega)) (fun b12 => ?_)
                  refine rr_iload4 (pc := 112) B dX4_choose_112 ?_
                  refine rr_istore3 (pc := 114) B dX4_choose_114 rfl ?_
                  refine rr_aload0 (pc := 115) B dX4_choose_115 ?_
                  refine rr_iload5 (pc := 116) B dX4_choose_116 ?_
                  refine rr_putI (pc := 118) B dX4_choose_118 fl_4_107 ob_4_1 fi_4_1 (by omega) ?_
                  refine rr_iinc4 (z := 1) (pc := 121) B dX4_choose_121 rfl ?_
                  refine rr_goto 30 (pc := 124) B dX4_choose_124 (by decide) ?_
                  refine ih.1 _ _ _ _ _ ?_ ?_ ?_ ?_ ?_ ?_
                  · omega
                  · first | exact K1 | exact frm_ms K1 (by decide)
                  · first | exact K2 | exact ⟨by omega, by assumption⟩
                  · first | exact K3 | (rw [ms_at]; exact WE)
                  · intro u a b q
                    rcases Int.lt_or_eq_of_le (show u ≤ s by omega) with z | z
                    · have y := K4 u a z q; omega
                    · subst z; omega
                  · omega
      · intro M1 c d w5 w6 K0 K1 K2 K3 K4 K5 hm
        refine rr_rg (fun G1 => ?_)
        refine rr_iload4 (pc := 145) B dX4_choose_145 ?_
        refine rr_bipush (z := 8) (pc := 147) B dX4_choose_147 (by decide) ?_
        refine rr_icmp_ge 185 (pc := 149) B dX4_choose_149 (by decide) (by omega) (fun b1 => ?_) (fun b1 => ?_)
        · refine rr_return (pc := 185) B Br dX4_choose_185 ⟨rfl, ?_⟩
          · obtain ⟨r, r1, r2, r3, r4, r5⟩ := K5
            have m := mst_eq r1
            have dg : ∀ i, 0 ≤ i → i < 8 → 0 ≤ rb (V 9 2) r i + 1 ∧ rb (V 9 2) r i + 1 ≤ 8 := fun i a b => by
              unfold rb
              split
              · next z => have := r5 i z.1 z.2; omega
              · omega
            have nd := num_d (C := cR V r) dg r4
            rw [← codR_8 N8, ← r3] at nd
            refine ⟨⟨by rw [K3.1, ← r2]; exact m.2.1, by rw [K3.2, nd.1]; exact m.2.2, fun e a b => ?_⟩, K1⟩
            rw [K4 e a (by omega), nd.2 e a (by omega), ← m.1 e a b]
            show rb (V 9 2) r e + 1 - 1 = r e
            unfold rb
            rw [if_pos ⟨a, b⟩]
            omega
        · refine rr_aload0 (pc := 152) B dX4_choose_152 ?_
          refine rr_getR (pc := 153) B dX4_choose_153 fl_4_9 or_4_0 ?_
          refine rr_iload4 (pc := 156) B dX4_choose_156 ?_
          refine rr_aload0 (pc := 158) B dX4_choose_158 ?_
          refine rr_getR (pc := 159) B dX4_choose_159 fl_4_22 or_4_4 ?_
          refine rr_iload3 (pc := 162) B dX4_choose_162 ?_
          refine rr_laloadE (pc := 163) B dX4_choose_163 sa_27 (by omega) (K1 27 _ rfl) (fun b2 => ?_)
          refine rr_gets (pc := 164) B dX4_choose_164 B.2.2.2.2.2.2.1.2.2 (ax_in 647 (by decide +kernel) rfl) ?_
          refine rr_iload4 (pc := 167) B dX4_choose_167 ?_
          refine rr_tl (pc := 169) B dX4_choose_169 B.2.2.2.2.2.2.1.2.2 (by decide) (by omega) ?_
          refine rr_ldiv (pc := 170) B dX4_choose_170 (by have := G0.at (sa_27.2.2 c); have w := wq_r d; unfold wq at w; omega) ?_
          refine rr_ldc2 (z := 9) (pc := 171) B dX4_choose_171 cn_4_116 (by decide) ?_
          refine rr_lrem (pc := 174) B dX4_choose_174 (by have := G0.at (sa_27.2.2 c); have w := wq_r d; unfold wq at w; have z := Int.ediv_nonneg (a := M 27 c) (b := ax_wt d.toNat) (by omega) (by omega); have y := Int.ediv_le_self (a := M 27 c) (ax_wt d.toNat) (by omega); omega) ?_
          refine rr_l2i (pc := 175) B dX4_choose_175 (by omega) ?_
          refine rr_iconst (z := 1) (pc := 176) B dX4_choose_176 ?_
          refine rr_isub (pc := 177) B dX4_choose_177 ?_
          refine rr_iastore (pc := 178) B dX4_choose_178 sa_26 (by omega) (by omega) ?_
          refine rr_iinc4 (z := 1) (pc := 179) B dX4_choose_179 rfl ?_
          refine rr_goto 145 (pc := 182) B dX4_choose_182 (by decide) ?_
          refine ih.2.1 _ _ _ _ _ ?_ ?_ ?_ ?_ ?_ ?_ ?_
          · omega
          · exact frm_ms K1 (by simp [exW])
          · exact K2
          · exact K3
          · intro e a b
            by_cases q : e = d
            · subst q; rw [ms_at]; rfl
            · rw [ms_off q]; exact K4 e a (by omega)
          · exact K5
          · omega
  refine rr_aload0 (pc := 0) B dX4_choose_0 ?_
  refine rr_getR (pc := 1) B dX4_choose_1 fl_4_18 or_4_3 ?_
  refine rr_getR (pc := 4) B dX4_choose_4 fl_4_62 or_2_2 ?_
  refine rr_getR (pc := 7) B dX4_choose_7 fl_4_66 or_1_2 ?_
  refine rr_iconst (z := 2) (pc := 10) B dX4_choose_10 ?_
  refine rr_ialoadE (pc := 11) B dX4_choose_11 sa_17 (by omega) (HC.2.2.2.2.1 _ (by omega) (by omega)) (fun b1 => ?_)
  refine rr_iconst (z := 1) (pc := 12) B dX4_choose_12 ?_
  refine rr_iadd (pc := 13) B dX4_choose_13 ?_
  refine rr_i2l (pc := 14) B dX4_choose_14 (by omega) ?_
  refine rr_ldc2 (z := 43046721) (pc := 15) B dX4_choose_15 cn_4_71 (by decide) ?_
  refine rr_lmul (pc := 18) B dX4_choose_18 ?_
  refine rr_lstore1 (pc := 19) B dX4_choose_19 rfl ?_
  refine rr_iconst (z := 0) (pc := 20) B dX4_choose_20 ?_
  refine rr_istore3 (pc := 21) B dX4_choose_21 rfl ?_
  refine rr_aload0 (pc := 22) B dX4_choose_22 ?_
  refine rr_iconst (z := 0) (pc := 23) B dX4_choose_23 ?_
  refine rr_putI (pc := 24) B dX4_choose_24 fl_4_107 ob_4_1 fi_4_1 (by omega) ?_
  refine rr_iconst (z := 1) (pc := 27) B dX4_choose_27 ?_
  refine rr_istore4 (pc := 28) B dX4_choose_28 rfl ?_
  refine (L _).1 _ _ _ _ _ ?_ ?_ ?_ ?_ ?_ (Nat.lt_succ_self _)
  · omega
  · exact frm_ms frm_rfl (by decide)
  · exact ⟨by omega, by rw [Z27]; omega⟩
  · rw [ms_at]; exact wth0 V N8.1
  · intro u a b c; rw [show u = 0 by omega]; omega
set_option maxHeartbeats 16000000 in
set_option maxRecDepth 100000 in
theorem ct_X4_reckon (g : ax_G) (M : ax_M) (V : ax_M) (H0 : AgC V M) (H1 : RO V M) : CT g md_X4_reckon 3 [aR 4] M (pVR (fun M2 => RPl V M2 ∧ frm exQ M M2)) := by
  refine ct_intro 1 rfl rfl ?_
  intro X hg B Br
  subst hg
  show AW X 0 [some (aR 4), none] [] M
  refine rr_rg (fun G0 => ?_)
  have HC := H0
  have N8 : 0 ≤ V 9 2 ∧ V 9 2 ≤ 8 := by have := G0.at ob_0_6.2.1; rw [HC.1] at this; exact this
  have HO := H1
  have P57 : ∀ p, 0 ≤ p → p < 8 → 0 ≤ V 57 p ∧ V 57 p ≤ 99 := fun p a b => by have := G0.at (sa_15.2.2 (p * 4 + 2)); rw [(HC.2.2.1 p a (by omega)).2.2.1] at this; exact this
  have A8 := hop_r V N8
  have AL := hop_lt V N8
  have R99 : 0 ≤ V 60 0 ∧ V 60 0 ≤ 999 := by have := G0.at (sa_17.2.2 0); rw [HC.2.2.2.2.1 0 (by decide) (by decide)] at this; exact this
  have R2 : 0 ≤ V 60 2 ∧ V 60 2 ≤ 999 := by have := G0.at (sa_17.2.2 2); rw [HC.2.2.2.2.1 2 (by decide) (by decide)] at this; exact this
  have L : ∀ nn : Nat, (∀ (M1 : ax_M) (s : Int), (1 ≤ s ∧ s ≤ hopD V (V 9 2) + 1) → (frm exQ M M1) → (M1 4 7 = hopD V (V 9 2)) → (M1 27 0 = 0) → (∀ u, 0 < u → u < s → M1 27 u = NV) → ((1000 - s).toNat) < nn → AW X 20 [some (aR 4), some (aI s)] [] M1) ∧ (∀ (M1 : ax_M) (h : Int), (0 ≤ h ∧ h ≤ 8) → (frm exQ M M1) → (M1 4 7 = hopD V (V 9 2)) → (isLs (V 9 2) (vC V) (okC V) NV h (lsC V M1)) → (∀ u, 0 ≤ u → u ≤ hopD V (V 9 2) → nD u (hopD V (V 9 2)) ≠ 0 → M1 27 u = NV) → ((100 - h).toNat) < nn → AW X 45 [some (aR 4), some (aI h)] [] M1) ∧ True := by
    intro nn
    induction nn with
    | zero => exact ⟨by intros; omega, by intros; omega, trivial⟩
    | succ nn ih =>
      refine ⟨?_, ?_, trivial⟩
      · intro M1 s K0 K1 K2 K3 K4 hm
        refine rr_rg (fun G1 => ?_)
        refine rr_iload1 (pc := 20) B dX4_reckon_20 ?_
        refine rr_aload0 (pc := 21) B dX4_reckon_21 ?_
        refine rr_getIE (pc := 22) B dX4_reckon_22 fl_4_36 ob_4_7 (K2) (fun b1 => ?_)
        refine rr_icmp_gt 43 (pc := 25) B dX4_reckon_25 (by decide) (by omega) (fun b2 => ?_) (fun b2 => ?_)
        · refine rr_iconst (z := 0) (pc := 43) B dX4_reckon_43 ?_
          refine rr_istore1 (pc := 44) B dX4_reckon_44 rfl ?_
          refine ih.2.1 _ _ ?_ ?_ ?_ ?_ ?_ ?_
          · omega
          · exact K1
          · exact K2
          · refine ls_0 (by omega) ?_ (fun u a b => ?_)
            · rw [show lsC V M1 0 = M1 27 0 from if_pos (by unfold nD; simp)]; exact K3
            · rcases Classical.em (nD u (hopD V (V 9 2)) = 0) with q | q
              · rw [show lsC V M1 u = M1 27 u from if_pos q]
                exact K4 u a (by have := sub_le A8.1 (by omega) ((nD_z (by omega)).mp q); omega)
              · exact if_neg q
          · intro u a b c; exact K4 u (by rcases Int.lt_or_eq_of_le a with z | z; exact z; exact absurd (show nD u (hopD V (V 9 2)) = 0 by rw [← z]; unfold nD; simp) c) (by omega)
          · omega
        · refine rr_aload0 (pc := 28) B dX4_reckon_28 ?_
          refine rr_getR (pc := 29) B dX4_reckon_29 fl_4_22 or_4_4 ?_
          refine rr_iload1 (pc := 32) B dX4_reckon_32 ?_
          refine rr_ldc2 (z := 1152921504606846976) (pc := 33) B dX4_reckon_33 cn_4_40 (by decide) ?_
          refine rr_lastore (pc := 36) B dX4_reckon_36 sa_27 (by omega) (by decide) ?_
          refine rr_iinc1 (z := 1) (pc := 37) B dX4_reckon_37 rfl ?_
          refine rr_goto 20 (pc := 40) B dX4_reckon_40 (by decide) ?_
          refine ih.1 _ _ ?_ ?_ ?_ ?_ ?_ ?_
          · omega
          · exact frm_ms K1 (by simp [exQ])
          · exact K2
          · rw [ms_off (by omega)]; exact K3
          · intro u a b
            by_cases q : u = s
            · subst q; rw [ms_at]; rfl
            · rw [ms_off q]; exact K4 u a (by omega)
          · omega
      · intro M1 h K0 K1 K2 K3 K4 hm
        refine rr_rg (fun G1 => ?_)
        refine rr_iload1 (pc := 45) B dX4_reckon_45 ?_
        refine rr_bipush (z := 8) (pc := 46) B dX4_reckon_46 (by decide) ?_
        refine rr_icmp_ge 67 (pc := 48) B dX4_reckon_48 (by decide) (by omega) (fun b1 => ?_) (fun b1 => ?_)
        · refine rr_aload0 (pc := 67) B dX4_reckon_67 ?_
          refine rc_VVR0 (pc := 68) B dX4_reckon_68 vm_X4_choose lk_4_49 so_4 rfl (ct_X4_choose _ _  V (agc_Q H0 K1) (by exact K2) (by have z := K3; rw [show h = 8 by omega] at z; exact z) (by exact K4)) (Nat.le_of_ble_eq_true rfl) (Nat.le_of_ble_eq_true rfl) (fun Mb2 b2 => ?_)
          refine rr_return (pc := 71) B Br dX4_reckon_71 ⟨rfl, ?_⟩
          · exact ⟨b2.1, frm_tr K1 (frm_mono b2.2 exW_Q)⟩
        · refine rr_aload0 (pc := 51) B dX4_reckon_51 ?_
          refine rr_iload1 (pc := 52) B dX4_reckon_52 ?_
          refine rc_VVR1 (pc := 53) B dX4_reckon_53 vm_X4_reckonTogether lk_4_42 so_4 rfl (ct_X4_reckonTogether _ _ _ V (agc_Q H0 K1) (ro_Q H1 K1) (by omega)) (Nat.le_of_ble_eq_true rfl) (Nat.le_of_ble_eq_true rfl) (fun Mb2 b2 => ?_)
          have F58 : frm exQ M Mb2 := frm_tr K1 (frm_mono b2.2 (exK_Q 29 (by decide)))
          refine rr_aload0 (pc := 56) B dX4_reckon_56 ?_
          refine rr_iload1 (pc := 57) B dX4_reckon_57 ?_
          refine rc_VVR1 (pc := 58) B dX4_reckon_58 vm_X4_joinHour lk_4_46 so_4 rfl (ct_X4_joinHour _ _ _ V (agc_Q H0 F58) (ro_Q H1 F58) (by omega) (by exact (b2.2 4 7 rfl).trans K2) (by exact b2.1)) (Nat.le_of_ble_eq_true rfl) (Nat.le_of_ble_eq_true rfl) (fun Mb3 b3 => ?_)
          refine rr_iinc1 (z := 1) (pc := 61) B dX4_reckon_61 rfl ?_
          refine rr_goto 45 (pc := 64) B dX4_reckon_64 (by decide) ?_
          refine ih.2.1 _ _ ?_ ?_ ?_ ?_ ?_ ?_
          · omega
          · exact frm_tr F58 (frm_mono b3.2 exJ_Q)
          · exact (b3.2 4 7 rfl).trans ((b2.2 4 7 rfl).trans K2)
          · refine ls_step N8 P57 R99 (by omega) K3 (fun u a b c => ?_)
            have z := b3.1.1 u a b (by rw [b2.2 4 7 rfl, K2]; exact c)
            rw [b2.2 4 7 rfl, K2, show Mb2 27 = M1 27 from funext (fun i => b2.2 27 i rfl)] at z
            exact z
          · intro u a b c
            have z := b3.1.2 u a (by omega) (by rw [b2.2 4 7 rfl, K2]; exact c)
            rw [z, b2.2 27 u rfl]
            exact K4 u a b c
          · omega
  refine rr_aload0 (pc := 0) B dX4_reckon_0 ?_
  refine rr_aload0 (pc := 1) B dX4_reckon_1 ?_
  refine rr_getR (pc := 2) B dX4_reckon_2 fl_4_18 or_4_3 ?_
  refine rc_VI0 (pc := 5) B dX4_reckon_5 vm_X2_hopefulDeeds lk_4_32 so_2 rfl (ct_X2_hopefulDeeds _ _  V (HC) (HO)) (Nat.le_of_ble_eq_true rfl) (Nat.le_of_ble_eq_true rfl) ?_
  refine rr_putI (pc := 8) B dX4_reckon_8 fl_4_36 ob_4_7 fi_4_7 (by omega) ?_
  refine rr_aload0 (pc := 11) B dX4_reckon_11 ?_
  refine rr_getR (pc := 12) B dX4_reckon_12 fl_4_22 or_4_4 ?_
  refine rr_iconst (z := 0) (pc := 15) B dX4_reckon_15 ?_
  refine rr_lconst0 (pc := 16) B dX4_reckon_16 ?_
  refine rr_lastore (pc := 17) B dX4_reckon_17 sa_27 (by omega) (by decide) ?_
  refine rr_iconst (z := 1) (pc := 18) B dX4_reckon_18 ?_
  refine rr_istore1 (pc := 19) B dX4_reckon_19 rfl ?_
  refine (L _).1 _ _ ?_ ?_ ?_ ?_ ?_ (Nat.lt_succ_self _)
  · omega
  · exact frm_ms (frm_ms frm_rfl (by simp [exQ])) (by simp [exQ])
  · show ms M 4 7 (hopD V (V 9 2)) 4 7 = _; exact ms_at _ _ _ _
  · exact ms_at _ _ _ _
  · intro u a b; omega
