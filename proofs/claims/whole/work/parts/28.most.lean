set_option maxHeartbeats 16000000 in
set_option maxRecDepth 100000 in
theorem ct_X9_laysMost (g : ax_G) (M : ax_M) (S : ax_M) (H0 : bs S M) : CT g md_X9_laysMost 4 [aR 9] M (pVR (fun M2 => rdM S M2 ∧ (M2 9 24 = mW (vw S) ∧ M2 9 25 = mC (vw S) ∧ ∀ d, 0 ≤ d → d < vw S 9 2 → M2 64 d = mstR (vw S) d) ∧ frm exL M M2)) := by
  refine ct_intro 2 rfl rfl ?_
  intro X hg B Br
  subst hg
  show AW X 0 [some (aR 9), none, none] [] M
  refine rr_rg (fun G0 => ?_)
  have L : ∀ nn : Nat, (∀ (M1 : ax_M) (h : Int) (w2 : Option ax_V), (rdM S M1) → (frm exL M M1) → (0 ≤ h ∧ h ≤ 8) → (∀ g t, 0 ≤ g → g < h → 0 ≤ t → t < p2 (vw S 9 2) → M1 61 (256 * g + t) = cT (vw S) t g) → ((3000 * (20 - h) + 2999).toNat) < nn → AW X 6 [some (aR 9), some (aI h), w2] [] M1) ∧ (∀ (M1 : ax_M) (h s : Int), (rdM S M1) → (frm exL M M1) → (0 ≤ h ∧ h < 8) → (∀ g t, 0 ≤ g → g < h → 0 ≤ t → t < p2 (vw S 9 2) → M1 61 (256 * g + t) = cT (vw S) t g) → (0 ≤ s ∧ s ≤ p2 (vw S 9 2)) → (∀ t, 0 ≤ t → t < s → M1 61 (256 * h + t) = cT (vw S) t h) → ((3000 * (20 - h) + 1000 - s).toNat) < nn → AW X 14 [some (aR 9), some (aI h), some (aI s)] [] M1) ∧ (∀ (M1 : ax_M) (d : Int) (w2 : Option ax_V), (rdM S M1) → (frm exL M M1) → (0 ≤ d ∧ d ≤ vw S 9 2) → (∀ g t, 0 ≤ g → g < 8 → 0 ≤ t → t < p2 (vw S 9 2) → M1 61 (256 * g + t) = cT (vw S) t g) → (PX (vw S) (M1 64) d (M1 9 24) (M1 9 25)) → ((100 * (20 - d) + 99).toNat) < nn → AW X 77 [some (aR 9), some (aI d), w2] [] M1) ∧ (∀ (M1 : ax_M) (d : Int) (w2 : Option ax_V), (rdM S M1) → (frm exL M M1) → (0 ≤ d ∧ d < vw S 9 2) → (∀ g t, 0 ≤ g → g < 8 → 0 ≤ t → t < p2 (vw S 9 2) → M1 61 (256 * g + t) = cT (vw S) t g) → (PX (vw S) (M1 64) d (M1 9 24) (M1 9 25)) → (BestP (vw S) (M1 64) (d + 1) (M1 9 22) (M1 9 23)) → (JX (vw S) (M1 64) d (M1 9 24) (M1 9 25)) → (-1 ≤ M1 64 d ∧ M1 64 d ≤ 7) → ((100 * (20 - d) + 20 - M1 64 d).toNat) < nn → AW X 99 [some (aR 9), some (aI d), w2] [] M1) ∧ True := by
    intro nn
    induction nn with
    | zero => exact ⟨by intros; omega, by intros; omega, by intros; omega, by intros; omega, trivial⟩
    | succ nn ih =>
      refine ⟨?_, ?_, ?_, ?_, trivial⟩
      · intro M1 h w2 K0 K1 K2 K3 hm
        refine rr_rg (fun G1 => ?_)
        have N8 : 0 ≤ vw S 9 2 ∧ vw S 9 2 ≤ 8 := by have := G1.at ob_9_2.2.1; rw [K0.1 9 2 (Or.inl rfl)] at this; exact this
        have P8 : 1 ≤ p2 (vw S 9 2) ∧ p2 (vw S 9 2) ≤ 256 := ⟨p2_pos _, by have q2 := p2_le (a := vw S 9 2) (b := 8) N8.2; have q3 : p2 8 = 256 := rfl; omega⟩
        refine rr_iload1 (pc := 6) B dX9_laysMost_6 ?_
        refine rr_bipush (z := 8) (pc := 7) B dX9_laysMost_7 (by decide) ?_
        refine rr_icmp_ge 54 (pc := 9) B dX9_laysMost_9 (by decide) (by omega) (fun b1 => ?_) (fun b1 => ?_)
        · refine rr_aload0 (pc := 54) B dX9_laysMost_54 ?_
          refine rr_iconst (z := 0) (pc := 55) B dX9_laysMost_55 ?_
          refine rc_VVR1 (pc := 56) B dX9_laysMost_56 vm_X9_bestOf lk_9_201 so_9 rfl (ct_X9_bestOf _ _ _ (vw S) (K0.1) (by omega) (by exact fun g t a b c e => K3 g t a (by omega) c e) (by intro e a b; omega)) (Nat.le_of_ble_eq_true rfl) (Nat.le_of_ble_eq_true rfl) (fun Mb2 b2 => ?_)
          refine rr_aload0 (pc := 59) B dX9_laysMost_59 ?_
          refine rr_aload0 (pc := 60) B dX9_laysMost_60 ?_
          refine rr_getI (pc := 61) B dX9_laysMost_61 fl_9_189 ob_9_22 (fun b3 => ?_)
          refine rr_putI (pc := 64) B dX9_laysMost_64 fl_9_205 ob_9_24 fi_9_24 (by omega) ?_
          refine rr_aload0 (pc := 67) B dX9_laysMost_67 ?_
          refine rr_aload0 (pc := 68) B dX9_laysMost_68 ?_
          refine rr_getI (pc := 69) B dX9_laysMost_69 fl_9_192 ob_9_23 (fun b4 => ?_)
          refine rr_putI (pc := 72) B dX9_laysMost_72 fl_9_208 ob_9_25 fi_9_25 (by omega) ?_
          have FF2 : frm (fun k i => decide (k = 62 ∨ k = 63 ∨ k = 9 ∧ (i = 22 ∨ i = 23 ∨ i = 24 ∨ i = 25))) M1 (ms (ms Mb2 9 24 (Mb2 9 22)) 9 25 (ms Mb2 9 24 (Mb2 9 22) 9 23)) := frm_ms (frm_ms (frm_mono b2.2 (fun k i e => by unfold exB; have e := of_decide_eq_false e; exact decide_eq_false (by omega))) (by decide)) (by decide)
          have FF : frm exM M1 (ms (ms Mb2 9 24 (Mb2 9 22)) 9 25 (ms Mb2 9 24 (Mb2 9 22) 9 23)) := frm_mono FF2 (fun k i e => by unfold exM at e; have e := of_decide_eq_false e; exact decide_eq_false (by omega))
          have E64 : Mb2 64 = M1 64 := funext (fun i => b2.2 64 i rfl)
          have PXF : PX (vw S) ((ms (ms Mb2 9 24 (Mb2 9 22)) 9 25 (ms Mb2 9 24 (Mb2 9 22) 9 23)) 64) 0 ((ms (ms Mb2 9 24 (Mb2 9 22)) 9 25 (ms Mb2 9 24 (Mb2 9 22) 9 23)) 9 24) ((ms (ms Mb2 9 24 (Mb2 9 22)) 9 25 (ms Mb2 9 24 (Mb2 9 22) 9 23)) 9 25) := by
            show PX (vw S) (Mb2 64) 0 (Mb2 9 22) (Mb2 9 23)
            rw [E64]
            exact PX_0 N8.1 (by have := G1.at (sa_60.2.2 2); rw [K0.1 60 2 trivial] at this; exact this.1) b2.1
          refine rr_iconst (z := 0) (pc := 75) B dX9_laysMost_75 ?_
          refine rr_istore1 (pc := 76) B dX9_laysMost_76 rfl ?_
          refine ih.2.2.1 _ _ _ ?_ ?_ ?_ ?_ ?_ ?_
          · exact rd_M K0 FF
          · exact frm_tr K1 (frm_mono FF exM_L)
          · omega
          · intro g t a b c e; exact (FF2 61 _ rfl).trans (K3 g t a (by omega) c e)
          · exact PXF
          · omega
        · refine rr_iconst (z := 0) (pc := 12) B dX9_laysMost_12 ?_
          refine rr_istore2 (pc := 13) B dX9_laysMost_13 rfl ?_
          refine ih.2.1 _ _ _ ?_ ?_ ?_ ?_ ?_ ?_ ?_
          · exact K0
          · exact K1
          · omega
          · exact K3
          · omega
          · intro t a b; omega
          · omega
      · intro M1 h s K0 K1 K2 K3 K4 K5 hm
        refine rr_rg (fun G1 => ?_)
        have N8 : 0 ≤ vw S 9 2 ∧ vw S 9 2 ≤ 8 := by have := G1.at ob_9_2.2.1; rw [K0.1 9 2 (Or.inl rfl)] at this; exact this
        have P8 : 1 ≤ p2 (vw S 9 2) ∧ p2 (vw S 9 2) ≤ 256 := ⟨p2_pos _, by have q2 := p2_le (a := vw S 9 2) (b := 8) N8.2; have q3 : p2 8 = 256 := rfl; omega⟩
        refine rr_iload2 (pc := 14) B dX9_laysMost_14 ?_
        refine rr_iconst (z := 1) (pc := 15) B dX9_laysMost_15 ?_
        refine rr_aload0 (pc := 16) B dX9_laysMost_16 ?_
        refine rr_getIE (pc := 17) B dX9_laysMost_17 fl_9_107 ob_9_2 (K0.1 9 _ (Or.inl rfl)) (fun b1 => ?_)
        refine rr_shl1 (pc := 20) B dX9_laysMost_20 (by omega) (fun b2 => ?_)
        refine rr_icmp_ge 48 (pc := 21) B dX9_laysMost_21 (by decide) (by omega) (fun b3 => ?_) (fun b3 => ?_)
        · refine rr_iinc1 (z := 1) (pc := 48) B dX9_laysMost_48 rfl ?_
          refine rr_goto 6 (pc := 51) B dX9_laysMost_51 (by decide) ?_
          refine ih.1 _ _ _ ?_ ?_ ?_ ?_ ?_
          · exact K0
          · exact K1
          · omega
          · intro g t a b c e
            rcases Int.lt_or_eq_of_le (show g ≤ h by omega) with q | q
            · exact K3 g t a q c e
            · rw [q]; exact K5 t c (by omega)
          · omega
        · refine rr_aload0 (pc := 24) B dX9_laysMost_24 ?_
          refine rr_getR (pc := 25) B dX9_laysMost_25 fl_9_58 or_9_18 ?_
          refine rr_sipush (z := 256) (pc := 28) B dX9_laysMost_28 (by decide) ?_
          refine rr_iload1 (pc := 31) B dX9_laysMost_31 ?_
          refine rr_imul (pc := 32) B dX9_laysMost_32 ?_
          refine rr_iload2 (pc := 33) B dX9_laysMost_33 ?_
          refine rr_iadd (pc := 34) B dX9_laysMost_34 ?_
          refine rr_aload0 (pc := 35) B dX9_laysMost_35 ?_
          refine rr_iload2 (pc := 36) B dX9_laysMost_36 ?_
          refine rr_iload1 (pc := 37) B dX9_laysMost_37 ?_
          refine rc_VI2 (pc := 38) B dX9_laysMost_38 vm_X9_costTogether lk_9_198 so_9 rfl (ct_X9_costTogether _ _ _ _ (vw S) (K0.1) (by omega) (by omega)) (Nat.le_of_ble_eq_true rfl) (Nat.le_of_ble_eq_true rfl) ?_
          refine rr_iastore (pc := 41) B dX9_laysMost_41 sa_61 (by omega) (by have := cT_r (V := vw S) (set := s) (h := h) N8 (fun p a b => by have := G1.at (sa_57.2.2 p); rw [K0.1 57 p trivial] at this; exact this) (by have := G1.at (sa_60.2.2 0); rw [K0.1 60 0 trivial] at this; exact this); omega) ?_
          refine rr_iinc2 (z := 1) (pc := 42) B dX9_laysMost_42 rfl ?_
          refine rr_goto 14 (pc := 45) B dX9_laysMost_45 (by decide) ?_
          refine ih.2.1 _ _ _ ?_ ?_ ?_ ?_ ?_ ?_ ?_
          · exact rd_M K0 (frm_ms frm_rfl (by simp [exM]))
          · exact frm_ms K1 (by simp [exL])
          · omega
          · intro g t a b c e
            rw [ms_off (by omega)]; exact K3 g t a b c e
          · omega
          · intro t a b
            by_cases q : t = s
            · subst q; exact ms_at _ _ _ _
            · rw [ms_off (by omega)]; exact K5 t a (by omega)
          · omega
      · intro M1 d w2 K0 K1 K2 K3 K4 hm
        refine rr_rg (fun G1 => ?_)
        have N8 : 0 ≤ vw S 9 2 ∧ vw S 9 2 ≤ 8 := by have := G1.at ob_9_2.2.1; rw [K0.1 9 2 (Or.inl rfl)] at this; exact this
        have P8 : 1 ≤ p2 (vw S 9 2) ∧ p2 (vw S 9 2) ≤ 256 := ⟨p2_pos _, by have q2 := p2_le (a := vw S 9 2) (b := 8) N8.2; have q3 : p2 8 = 256 := rfl; omega⟩
        refine rr_iload1 (pc := 77) B dX9_laysMost_77 ?_
        refine rr_aload0 (pc := 78) B dX9_laysMost_78 ?_
        refine rr_getIE (pc := 79) B dX9_laysMost_79 fl_9_107 ob_9_2 (K0.1 9 _ (Or.inl rfl)) (fun b1 => ?_)
        refine rr_icmp_ge 147 (pc := 82) B dX9_laysMost_82 (by decide) (by omega) (fun b2 => ?_) (fun b2 => ?_)
        · have Z := PX_n N8.1 (by have z := K4; rw [show d = vw S 9 2 by omega] at z; exact z)
          have Z2 := mst_eq Z.1
          refine rr_return (pc := 147) B Br dX9_laysMost_147 ⟨rfl, ?_⟩
          · exact ⟨K0, ⟨by rw [← Z2.2.1, Z.2.1], by rw [← Z2.2.2, Z.2.2], Z2.1⟩, K1⟩
        · refine rr_aload0 (pc := 85) B dX9_laysMost_85 ?_
          refine rr_getR (pc := 86) B dX9_laysMost_86 fl_9_67 or_9_21 ?_
          refine rr_iload1 (pc := 89) B dX9_laysMost_89 ?_
          refine rr_iconst (z := (-1)) (pc := 90) B dX9_laysMost_90 ?_
          refine rr_iastore (pc := 91) B dX9_laysMost_91 sa_64 (by omega) (by omega) ?_
          refine rr_aload0 (pc := 92) B dX9_laysMost_92 ?_
          refine rr_iload1 (pc := 93) B dX9_laysMost_93 ?_
          refine rr_iconst (z := 1) (pc := 94) B dX9_laysMost_94 ?_
          refine rr_iadd (pc := 95) B dX9_laysMost_95 ?_
          refine rc_VVR1 (pc := 96) B dX9_laysMost_96 vm_X9_bestOf lk_9_201 so_9 rfl (ct_X9_bestOf _ _ _ (vw S) ((rd_M K0 (frm_ms frm_rfl (by simp [exM]))).1) (by omega) (by exact fun g t a b c e => K3 g t a b c e) (by intro e a b; rcases Classical.em (e = d) with q | q <;> first | (rw [q, ms_at]; omega) | (rw [ms_off q]; exact K4.2.2.2.1 e a (by omega)))) (Nat.le_of_ble_eq_true rfl) (Nat.le_of_ble_eq_true rfl) (fun Mb3 b3 => ?_)
          have FF2 : frm exM M1 Mb3 := frm_tr (frm_ms frm_rfl (by simp [exM])) (frm_mono b3.2 exB_M)
          have FF : frm exM M1 Mb3 := FF2
          have E64 : Mb3 64 = ms M1 64 d (-1) 64 := funext (fun i => b3.2 64 i rfl)
          have E64d : Mb3 64 d = -1 := by rw [E64]; exact ms_at _ _ _ _
          have E24 : Mb3 9 24 = M1 9 24 := b3.2 9 24 rfl
          have E25 : Mb3 9 25 = M1 9 25 := b3.2 9 25 rfl
          have E61 : ∀ j, Mb3 61 j = M1 61 j := fun j => b3.2 61 j rfl
          have EO : ∀ k, 0 ≤ k → k < d → M1 64 k = Mb3 64 k := fun k a b => by rw [E64, ms_off (by omega)]
          have PXF : PX (vw S) (Mb3 64) d (Mb3 9 24) (Mb3 9 25) := by rw [E24, E25]; exact PX_cg EO K4
          have BPF : BestP (vw S) (Mb3 64) (d + 1) (Mb3 9 22) (Mb3 9 23) := by rw [E64]; exact b3.1
          have JXF : JX (vw S) (Mb3 64) d (Mb3 9 24) (Mb3 9 25) := by
            exact JX_0 ⟨by omega, by omega⟩ E64d
          refine ih.2.2.2.1 _ _ _ ?_ ?_ ?_ ?_ ?_ ?_ ?_ ?_ ?_
          · exact rd_M K0 FF
          · exact frm_tr K1 (frm_mono FF exM_L)
          · omega
          · intro g t a b c e; exact (E61 _).trans (K3 g t a b c e)
          · exact PXF
          · exact BPF
          · exact JXF
          · rw [E64d]; omega
          · rw [E64d]; omega
      · intro M1 d w2 K0 K1 K2 K3 K4 K5 K6 K7 hm
        refine rr_rg (fun G1 => ?_)
        have N8 : 0 ≤ vw S 9 2 ∧ vw S 9 2 ≤ 8 := by have := G1.at ob_9_2.2.1; rw [K0.1 9 2 (Or.inl rfl)] at this; exact this
        have P8 : 1 ≤ p2 (vw S 9 2) ∧ p2 (vw S 9 2) ≤ 256 := ⟨p2_pos _, by have q2 := p2_le (a := vw S 9 2) (b := 8) N8.2; have q3 : p2 8 = 256 := rfl; omega⟩
        
        refine rr_aload0 (pc := 99) B dX9_laysMost_99 ?_
        refine rr_getI (pc := 100) B dX9_laysMost_100 fl_9_189 ob_9_22 (fun b1 => ?_)
        refine rr_aload0 (pc := 103) B dX9_laysMost_103 ?_
        refine rr_getI (pc := 104) B dX9_laysMost_104 fl_9_205 ob_9_24 (fun b2 => ?_)
        refine rr_icmp_ne 121 (pc := 107) B dX9_laysMost_107 (by decide) (by omega) (fun b3 => ?_) (fun b3 => ?_)
        · have JS := JX_s K2 K4 K6 K5 (by omega)
          refine rr_aload0 (pc := 121) B dX9_laysMost_121 ?_
          refine rr_getR (pc := 122) B dX9_laysMost_122 fl_9_67 or_9_21 ?_
          refine rr_iload1 (pc := 125) B dX9_laysMost_125 ?_
          refine rr_dup2 (pc := 126) B dX9_laysMost_126 rfl rfl ?_
          refine rr_iaload (pc := 127) B dX9_laysMost_127 sa_64 (by omega) (fun b4 => ?_)
          refine rr_iconst (z := 1) (pc := 128) B dX9_laysMost_128 ?_
          refine rr_iadd (pc := 129) B dX9_laysMost_129 ?_
          refine rr_iastore (pc := 130) B dX9_laysMost_130 sa_64 (by omega) (by omega) ?_
          refine rr_aload0 (pc := 131) B dX9_laysMost_131 ?_
          refine rr_iload1 (pc := 132) B dX9_laysMost_132 ?_
          refine rr_iconst (z := 1) (pc := 133) B dX9_laysMost_133 ?_
          refine rr_iadd (pc := 134) B dX9_laysMost_134 ?_
          refine rc_VVR1 (pc := 135) B dX9_laysMost_135 vm_X9_bestOf lk_9_201 so_9 rfl (ct_X9_bestOf _ _ _ (vw S) ((rd_M K0 (frm_ms frm_rfl (by simp [exM]))).1) (by omega) (by exact fun g t a b c e => K3 g t a b c e) (by intro e a b; rcases Classical.em (e = d) with q | q <;> first | (rw [q, ms_at]; omega) | (rw [ms_off q]; exact K4.2.2.2.1 e a (by omega)))) (Nat.le_of_ble_eq_true rfl) (Nat.le_of_ble_eq_true rfl) (fun Mb5 b5 => ?_)
          have FF2 : frm exM M1 Mb5 := frm_tr (frm_ms frm_rfl (by simp [exM])) (frm_mono b5.2 exB_M)
          have FF : frm exM M1 Mb5 := FF2
          have E64 : Mb5 64 = ms M1 64 d (M1 64 d + 1) 64 := funext (fun i => b5.2 64 i rfl)
          have E64d : Mb5 64 d = M1 64 d + 1 := by rw [E64]; exact ms_at _ _ _ _
          have E24 : Mb5 9 24 = M1 9 24 := b5.2 9 24 rfl
          have E25 : Mb5 9 25 = M1 9 25 := b5.2 9 25 rfl
          have E61 : ∀ j, Mb5 61 j = M1 61 j := fun j => b5.2 61 j rfl
          have EO : ∀ k, 0 ≤ k → k < d → M1 64 k = Mb5 64 k := fun k a b => by rw [E64, ms_off (by omega)]
          have PXF : PX (vw S) (Mb5 64) d (Mb5 9 24) (Mb5 9 25) := by rw [E24, E25]; exact PX_cg EO K4
          have BPF : BestP (vw S) (Mb5 64) (d + 1) (Mb5 9 22) (Mb5 9 23) := by rw [E64]; exact b5.1
          have JXF : JX (vw S) (Mb5 64) d (Mb5 9 24) (Mb5 9 25) := by
            intro r a b c q
            rw [E24] at b
            rw [E25] at c
            rw [E64d]
            exact JS.1 r a b c (fun k k0 k1 => by rw [EO k k0 k1]; exact q k k0 k1)
          refine rr_goto 99 (pc := 138) B dX9_laysMost_138 (by decide) ?_
          refine ih.2.2.2.1 _ _ _ ?_ ?_ ?_ ?_ ?_ ?_ ?_ ?_ ?_
          · exact rd_M K0 FF
          · exact frm_tr K1 (frm_mono FF exM_L)
          · omega
          · intro g t a b c e; exact (E61 _).trans (K3 g t a b c e)
          · exact PXF
          · exact BPF
          · exact JXF
          · rw [E64d]; omega
          · rw [E64d]; omega
        · refine rr_aload0 (pc := 110) B dX9_laysMost_110 ?_
          refine rr_getI (pc := 111) B dX9_laysMost_111 fl_9_192 ob_9_23 (fun b4 => ?_)
          refine rr_aload0 (pc := 114) B dX9_laysMost_114 ?_
          refine rr_getI (pc := 115) B dX9_laysMost_115 fl_9_208 ob_9_25 (fun b5 => ?_)
          refine rr_icmp_eq 141 (pc := 118) B dX9_laysMost_118 (by decide) (by omega) (fun b6 => ?_) (fun b6 => ?_)
          · refine rr_iinc1 (z := 1) (pc := 141) B dX9_laysMost_141 rfl ?_
            refine rr_goto 77 (pc := 144) B dX9_laysMost_144 (by decide) ?_
            refine ih.2.2.1 _ _ _ ?_ ?_ ?_ ?_ ?_ ?_
            · exact K0
            · exact K1
            · omega
            · exact K3
            · exact PX_s K7 (by omega) K4 K6 (by have z := K5; rw [show M1 9 22 = M1 9 24 by assumption, show M1 9 23 = M1 9 25 by assumption] at z; exact z)
            · omega
          · have JS := JX_s K2 K4 K6 K5 (by omega)
            refine rr_aload0 (pc := 121) B dX9_laysMost_121 ?_
            refine rr_getR (pc := 122) B dX9_laysMost_122 fl_9_67 or_9_21 ?_
            refine rr_iload1 (pc := 125) B dX9_laysMost_125 ?_
            refine rr_dup2 (pc := 126) B dX9_laysMost_126 rfl rfl ?_
            refine rr_iaload (pc := 127) B dX9_laysMost_127 sa_64 (by omega) (fun b7 => ?_)
            refine rr_iconst (z := 1) (pc := 128) B dX9_laysMost_128 ?_
            refine rr_iadd (pc := 129) B dX9_laysMost_129 ?_
            refine rr_iastore (pc := 130) B dX9_laysMost_130 sa_64 (by omega) (by omega) ?_
            refine rr_aload0 (pc := 131) B dX9_laysMost_131 ?_
            refine rr_iload1 (pc := 132) B dX9_laysMost_132 ?_
            refine rr_iconst (z := 1) (pc := 133) B dX9_laysMost_133 ?_
            refine rr_iadd (pc := 134) B dX9_laysMost_134 ?_
            refine rc_VVR1 (pc := 135) B dX9_laysMost_135 vm_X9_bestOf lk_9_201 so_9 rfl (ct_X9_bestOf _ _ _ (vw S) ((rd_M K0 (frm_ms frm_rfl (by simp [exM]))).1) (by omega) (by exact fun g t a b c e => K3 g t a b c e) (by intro e a b; rcases Classical.em (e = d) with q | q <;> first | (rw [q, ms_at]; omega) | (rw [ms_off q]; exact K4.2.2.2.1 e a (by omega)))) (Nat.le_of_ble_eq_true rfl) (Nat.le_of_ble_eq_true rfl) (fun Mb8 b8 => ?_)
            have FF2 : frm exM M1 Mb8 := frm_tr (frm_ms frm_rfl (by simp [exM])) (frm_mono b8.2 exB_M)
            have FF : frm exM M1 Mb8 := FF2
            have E64 : Mb8 64 = ms M1 64 d (M1 64 d + 1) 64 := funext (fun i => b8.2 64 i rfl)
            have E64d : Mb8 64 d = M1 64 d + 1 := by rw [E64]; exact ms_at _ _ _ _
            have E24 : Mb8 9 24 = M1 9 24 := b8.2 9 24 rfl
            have E25 : Mb8 9 25 = M1 9 25 := b8.2 9 25 rfl
            have E61 : ∀ j, Mb8 61 j = M1 61 j := fun j => b8.2 61 j rfl
            have EO : ∀ k, 0 ≤ k → k < d → M1 64 k = Mb8 64 k := fun k a b => by rw [E64, ms_off (by omega)]
            have PXF : PX (vw S) (Mb8 64) d (Mb8 9 24) (Mb8 9 25) := by rw [E24, E25]; exact PX_cg EO K4
            have BPF : BestP (vw S) (Mb8 64) (d + 1) (Mb8 9 22) (Mb8 9 23) := by rw [E64]; exact b8.1
            have JXF : JX (vw S) (Mb8 64) d (Mb8 9 24) (Mb8 9 25) := by
              intro r a b c q
              rw [E24] at b
              rw [E25] at c
              rw [E64d]
              exact JS.1 r a b c (fun k k0 k1 => by rw [EO k k0 k1]; exact q k k0 k1)
            refine rr_goto 99 (pc := 138) B dX9_laysMost_138 (by decide) ?_
            refine ih.2.2.2.1 _ _ _ ?_ ?_ ?_ ?_ ?_ ?_ ?_ ?_ ?_
            · exact rd_M K0 FF
            · exact frm_tr K1 (frm_mono FF exM_L)
            · omega
            · intro g t a b c e; exact (E61 _).trans (K3 g t a b c e)
            · exact PXF
            · exact BPF
            · exact JXF
            · rw [E64d]; omega
            · rw [E64d]; omega
  refine rr_aload0 (pc := 0) B dX9_laysMost_0 ?_
  refine rc_VVR0 (pc := 1) B dX9_laysMost_1 vm_X9_reads lk_9_139 so_9 rfl (ct_X9_reads _ _  _ (by exact H0)) (Nat.le_of_ble_eq_true rfl) (Nat.le_of_ble_eq_true rfl) (fun Mb1 b1 => ?_)
  refine rr_iconst (z := 0) (pc := 4) B dX9_laysMost_4 ?_
  refine rr_istore1 (pc := 5) B dX9_laysMost_5 rfl ?_
  refine (L _).1 _ _ _ ?_ ?_ ?_ ?_ (Nat.lt_succ_self _)
  · exact b1.1
  · exact frm_mono b1.2 exP_L
  · omega
  · intro g t a b; omega
set_option maxHeartbeats 4000000 in
set_option maxRecDepth 100000 in
theorem ct_X9_most (g : ax_G) (M : ax_M) (w : Int) (S : ax_M) (H0 : bs S M) (H1 : SI S) (H2 : -2147483648 ≤ w ∧ w ≤ 2147483647) : CT g md_X9_most 5 [aR 9, aI w] M (pIR (vMost S w) (fun M2 => bs (S) M2 ∧ co M M2)) := by
  refine ct_intro 0 rfl rfl ?_
  intro X hg B Br
  subst hg
  show AW X 0 [some (aR 9), some (aI w)] [] M
  refine rr_rg (fun G0 => ?_)
  have HB := H0
  refine rr_iload1 (pc := 0) B dX9_most_0 ?_
  refine rr_iconst (z := 0) (pc := 1) B dX9_most_1 ?_
  refine rr_iconst (z := 1) (pc := 2) B dX9_most_2 ?_
  refine rc_SI3 (pc := 3) B dX9_most_3 st_X9_in lk_9_103 (ct_X9_in _ _ _ _ _  (by omega)) (Nat.le_of_ble_eq_true rfl) (Nat.le_of_ble_eq_true rfl) ?_
  refine rr_if_neB 12 (pc := 6) B dX9_most_6 (by decide) (fun b1 => ?_) (fun b1 => ?_)
  · replace b1 := of_decide_eq_true b1
    refine rr_aload0 (pc := 12) B dX9_most_12 ?_
    refine rc_VVR0 (pc := 13) B dX9_most_13 vm_X9_laysMost lk_9_211 so_9 rfl (ct_X9_laysMost _ _  _ (by exact H0)) (Nat.le_of_ble_eq_true rfl) (Nat.le_of_ble_eq_true rfl) (fun Mb2 b2 => ?_)
    refine rr_iload1 (pc := 16) B dX9_most_16 ?_
    refine rr_if_ne 27 (pc := 17) B dX9_most_17 (by decide) (by omega) (fun b3 => ?_) (fun b3 => ?_)
    · refine rr_aload0 (pc := 27) B dX9_most_27 ?_
      refine rr_getIE (pc := 28) B dX9_most_28 fl_9_208 ob_9_25 (b2.2.1.2.1) (fun b4 => ?_)
      refine rr_ireturn (pc := 31) B Br dX9_most_31 ⟨congrArg (fun z => some (aI z)) ?_, ?_⟩
      · unfold vMost; repeat (first | rw [if_pos (by omega)] | rw [if_neg (by omega)])
      · first | exact ⟨b2.1.2.1, co_L b2.2.2⟩ | exact ⟨H0, co_rfl M⟩
    · refine rr_aload0 (pc := 20) B dX9_most_20 ?_
      refine rr_getIE (pc := 21) B dX9_most_21 fl_9_205 ob_9_24 (b2.2.1.1) (fun b4 => ?_)
      refine rr_goto 31 (pc := 24) B dX9_most_24 (by decide) ?_
      refine rr_ireturn (pc := 31) B Br dX9_most_31 ⟨congrArg (fun z => some (aI z)) ?_, ?_⟩
      · unfold vMost; repeat (first | rw [if_pos (by omega)] | rw [if_neg (by omega)])
      · first | exact ⟨b2.1.2.1, co_L b2.2.2⟩ | exact ⟨H0, co_rfl M⟩
  · replace b1 := of_decide_eq_false b1
    refine rr_bipush (z := (-2)) (pc := 9) B dX9_most_9 (by decide) ?_
    refine rr_ireturn (pc := 11) B Br dX9_most_11 ⟨congrArg (fun z => some (aI z)) ?_, ?_⟩
    · unfold vMost; repeat (first | rw [if_pos (by omega)] | rw [if_neg (by omega)])
    · first | exact ⟨b2.1.2.1, co_L b2.2.2⟩ | exact ⟨H0, co_rfl M⟩
set_option maxHeartbeats 4000000 in
set_option maxRecDepth 100000 in
theorem ct_X9_when (g : ax_G) (M : ax_M) (d : Int) (S : ax_M) (H0 : bs S M) (H1 : SI S) (H2 : -2147483648 ≤ d ∧ d ≤ 2147483647) : CT g md_X9_when 5 [aR 9, aI d] M (pIR (vWhen S d) (fun M2 => bs (S) M2 ∧ co M M2)) := by
  refine ct_intro 0 rfl rfl ?_
  intro X hg B Br
  subst hg
  show AW X 0 [some (aR 9), some (aI d)] [] M
  refine rr_rg (fun G0 => ?_)
  have HB := H0
  refine rr_aload0 (pc := 0) B dX9_when_0 ?_
  refine rr_iload1 (pc := 1) B dX9_when_1 ?_
  refine rc_VIR1 (pc := 2) B dX9_when_2 vm_X9_isDeed lk_9_142 so_9 rfl (ct_X9_isDeed _ _ _ _ (by exact H0) (by omega)) (Nat.le_of_ble_eq_true rfl) (Nat.le_of_ble_eq_true rfl) (fun Mb1 b1 => ?_)
  refine rr_if_neB 11 (pc := 5) B dX9_when_5 (by decide) (fun b2 => ?_) (fun b2 => ?_)
  · replace b2 := of_decide_eq_true b2
    refine rr_rg (fun G1 => ?_)
    have N8 : 0 ≤ vw S 9 2 ∧ vw S 9 2 ≤ 8 := by have := G1.at ob_9_2.2.1; rw [b1.1.1 9 2 (Or.inl rfl)] at this; exact this
    have P8 : 1 ≤ p2 (vw S 9 2) ∧ p2 (vw S 9 2) ≤ 256 := ⟨p2_pos _, by have q2 := p2_le (a := vw S 9 2) (b := 8) N8.2; have q3 : p2 8 = 256 := rfl; omega⟩
    refine rr_aload0 (pc := 11) B dX9_when_11 ?_
    refine rc_VVR0 (pc := 12) B dX9_when_12 vm_X9_laysMost lk_9_211 so_9 rfl (ct_X9_laysMost _ _  _ (by exact b1.1.2.1)) (Nat.le_of_ble_eq_true rfl) (Nat.le_of_ble_eq_true rfl) (fun Mb3 b3 => ?_)
    refine rr_aload0 (pc := 15) B dX9_when_15 ?_
    refine rr_getR (pc := 16) B dX9_when_16 fl_9_67 or_9_21 ?_
    refine rr_iload1 (pc := 19) B dX9_when_19 ?_
    refine rr_ialoadE (pc := 20) B dX9_when_20 sa_64 (by have := N8; omega) (b3.2.1.2.2 _ (by omega) (by omega)) (fun b4 => ?_)
    refine rr_ireturn (pc := 21) B Br dX9_when_21 ⟨congrArg (fun z => some (aI z)) ?_, ?_⟩
    · unfold vWhen isD; first | exact (if_pos (by omega)).symm | exact (if_neg (by omega)).symm
    · first | exact ⟨b3.1.2.1, co_tr (co_P b1.2) (co_L b3.2.2)⟩ | exact ⟨b1.1.2.1, co_P b1.2⟩
  · replace b2 := of_decide_eq_false b2
    refine rr_bipush (z := (-2)) (pc := 8) B dX9_when_8 (by decide) ?_
    refine rr_ireturn (pc := 10) B Br dX9_when_10 ⟨congrArg (fun z => some (aI z)) ?_, ?_⟩
    · unfold vWhen isD; first | exact (if_pos (by omega)).symm | exact (if_neg (by omega)).symm
    · first | exact ⟨b3.1.2.1, co_tr (co_P b1.2) (co_L b3.2.2)⟩ | exact ⟨b1.1.2.1, co_P b1.2⟩
set_option maxHeartbeats 4000000 in
set_option maxRecDepth 100000 in
theorem ct_X9_write (g : ax_G) (M : ax_M) (s : Int) (S : ax_M) (H0 : bs S M) (H1 : SI S) (H2 : -2147483648 ≤ s ∧ s ≤ 2147483647) : CT g md_X9_write 5 [aR 9, aI s] M (pIR (vWrit S s) (fun M2 => bs (sWrit S s) M2 ∧ co M M2)) := by
  refine ct_intro 1 rfl rfl ?_
  intro X hg B Br
  subst hg
  show AW X 0 [some (aR 9), some (aI s), none] [] M
  refine rr_rg (fun G0 => ?_)
  have HB := H0
  have L : ∀ nn : Nat, (∀ (M1 : ax_M) (n1 : Int), (0 ≤ n1 ∧ n1 ≤ wrN S s) → (bs (wrS S s n1) M1) → (co M M1) → (M1 9 2 = vw S 9 2 ∧ ∀ d, 0 ≤ d → d < vw S 9 2 → M1 64 d = mstR (vw S) d) → ((0 ≤ s ∧ s ≤ 3) ∧ S 70 s ≠ 0) → (vw S 9 2 ≤ 8 ∧ wrN S s ≤ 8) → ((8 - n1).toNat) < nn → AW X 31 [some (aR 9), some (aI s), some (aI n1)] [] M1) ∧ True := by
    intro nn
    induction nn with
    | zero => exact ⟨by intros; omega, trivial⟩
    | succ nn ih =>
      refine ⟨?_, trivial⟩
      · intro M1 n1 K0 K1 K2 K3 K4 K5 hm
        refine rr_rg (fun G1 => ?_)
        refine rr_iload2 (pc := 31) B dX9_write_31 ?_
        refine rr_aload0 (pc := 32) B dX9_write_32 ?_
        refine rr_getR (pc := 33) B dX9_write_33 fl_9_92 or_9_35 ?_
        refine rr_iload1 (pc := 36) B dX9_write_36 ?_
        refine rr_ialoadE (pc := 37) B dX9_write_37 sa_72 (by omega) ((K1 72 _ rfl).trans (congrFun (wrS_ne K0.1 (by decide)) _)) (fun b1 => ?_)
        refine rr_icmp_ge 67 (pc := 38) B dX9_write_38 (by decide) (by omega) (fun b2 => ?_) (fun b2 => ?_)
        · refine rr_iload2 (pc := 67) B dX9_write_67 ?_
          refine rr_ireturn (pc := 68) B Br dX9_write_68 ⟨congrArg (fun z => some (aI z)) ?_, ?_⟩
          · unfold vWrit; rw [if_pos K4.1, if_neg K4.2]; unfold wrN at *; split at * <;> omega
          · unfold sWrit; rw [if_pos K4.1, if_neg K4.2, show wrN S s = n1 by unfold wrN at *; split at * <;> omega]; exact ⟨K1, K2⟩
        · refine rr_iload2 (pc := 41) B dX9_write_41 ?_
          refine rr_aload0 (pc := 42) B dX9_write_42 ?_
          refine rr_getIE (pc := 43) B dX9_write_43 fl_9_107 ob_9_2 (K3.1) (fun b3 => ?_)
          refine rr_icmp_ge 67 (pc := 46) B dX9_write_46 (by decide) (by omega) (fun b4 => ?_) (fun b4 => ?_)
          · refine rr_iload2 (pc := 67) B dX9_write_67 ?_
            refine rr_ireturn (pc := 68) B Br dX9_write_68 ⟨congrArg (fun z => some (aI z)) ?_, ?_⟩
            · unfold vWrit; rw [if_pos K4.1, if_neg K4.2]; unfold wrN at *; split at * <;> omega
            · unfold sWrit; rw [if_pos K4.1, if_neg K4.2, show wrN S s = n1 by unfold wrN at *; split at * <;> omega]; exact ⟨K1, K2⟩
          · refine rr_aload0 (pc := 49) B dX9_write_49 ?_
            refine rr_iload1 (pc := 50) B dX9_write_50 ?_
            refine rr_iload2 (pc := 51) B dX9_write_51 ?_
            refine rr_aload0 (pc := 52) B dX9_write_52 ?_
            refine rr_getR (pc := 53) B dX9_write_53 fl_9_67 or_9_21 ?_
            refine rr_iload2 (pc := 56) B dX9_write_56 ?_
            refine rr_ialoadE (pc := 57) B dX9_write_57 sa_64 (by omega) (K3.2 _ (by omega) (by omega)) (fun b5 => ?_)
            refine rc_VVR3 (pc := 58) B dX9_write_58 vm_X9_keep lk_9_281 so_9 rfl (ct_X9_keep _ _ _ _ _ (wrS S s n1) (by exact K1) (by omega) (by omega) (by omega)) (Nat.le_of_ble_eq_true rfl) (Nat.le_of_ble_eq_true rfl) (fun Mb6 b6 => ?_)
            refine rr_iinc2 (z := 1) (pc := 61) B dX9_write_61 rfl ?_
            refine rr_goto 31 (pc := 64) B dX9_write_64 (by decide) ?_
            refine ih.1 _ _ ?_ ?_ ?_ ?_ ?_ ?_ ?_
            · unfold wrN at *; split at * <;> omega
            · rw [show wrS S s (n1 + 1) = kpS (wrS S s n1) s n1 (mstR (vw S) n1) from itI_s _ _ K0.1]; exact b6.1
            · exact fun k i e => (b6.2 k i (decide_eq_false (by omega))).trans (K2 k i e)
            · exact ⟨(b6.2 9 2 rfl).trans K3.1, fun d a b => (b6.2 64 d rfl).trans (K3.2 d a b)⟩
            · first | assumption | omega
            · exact K5
            · omega
  refine rr_iload1 (pc := 0) B dX9_write_0 ?_
  refine rc_SI1 (pc := 1) B dX9_write_1 st_X9_isSheet lk_9_158 (ct_X9_isSheet _ _ _  (by omega)) (Nat.le_of_ble_eq_true rfl) (Nat.le_of_ble_eq_true rfl) ?_
  refine rr_if_neB 10 (pc := 4) B dX9_write_4 (by decide) (fun b1 => ?_) (fun b1 => ?_)
  · replace b1 := of_decide_eq_true b1
    refine rr_aload0 (pc := 10) B dX9_write_10 ?_
    refine rr_getR (pc := 11) B dX9_write_11 fl_9_85 or_9_33 ?_
    refine rr_iload1 (pc := 14) B dX9_write_14 ?_
    refine rr_zaloadE (pc := 15) B dX9_write_15 sa_70 (by omega) (HB 70 _ rfl) (fun b2 => ?_)
    refine rr_if_ne 25 (pc := 16) B dX9_write_16 (by decide) (by omega) (fun b3 => ?_) (fun b3 => ?_)
    · refine rr_aload0 (pc := 25) B dX9_write_25 ?_
      refine rc_VVR0 (pc := 26) B dX9_write_26 vm_X9_laysMost lk_9_211 so_9 rfl (ct_X9_laysMost _ _  _ (by exact H0)) (Nat.le_of_ble_eq_true rfl) (Nat.le_of_ble_eq_true rfl) (fun Mb4 b4 => ?_)
      refine rr_rg (fun G2 => ?_)
      refine rr_iconst (z := 0) (pc := 29) B dX9_write_29 ?_
      refine rr_istore2 (pc := 30) B dX9_write_30 rfl ?_
      refine (L _).1 _ _ ?_ ?_ ?_ ?_ ?_ ?_ (Nat.lt_succ_self _)
      · unfold wrN; have z := b4.1.2.1 72 s rfl; have y := G2.at (sa_72.2.2 s); have x := G2.at ob_9_2.2.1; rw [b4.1.1 9 2 (Or.inl rfl)] at x; rw [z] at y; split <;> omega
      · exact b4.1.2.1
      · exact co_L b4.2.2
      · exact ⟨b4.1.1 9 2 (Or.inl rfl), b4.2.1.2.2⟩
      · first | assumption | omega
      · have x := G2.at ob_9_2.2.1; rw [b4.1.1 9 2 (Or.inl rfl)] at x; unfold wrN; split <;> omega
    · refine rr_aload0 (pc := 19) B dX9_write_19 ?_
      refine rr_iconst (z := 1) (pc := 20) B dX9_write_20 ?_
      refine rc_VI1 (pc := 21) B dX9_write_21 vm_X9_meets lk_9_161 so_9 rfl (ct_X9_meets _ _ _  (by omega)) (Nat.le_of_ble_eq_true rfl) (Nat.le_of_ble_eq_true rfl) ?_
      refine rr_ireturn (pc := 24) B Br dX9_write_24 ⟨congrArg (fun z => some (aI z)) ?_, ?_⟩
      · unfold vWrit; repeat (first | rw [if_pos (by omega)] | rw [if_neg (by omega)])
      · unfold sWrit mee; repeat (first | rw [if_pos (by omega)] | rw [if_neg (by omega)])
        first | exact ⟨bs_ms H0 _ _ _, co_ms (co_rfl M) (by decide)⟩ | exact ⟨H0, co_rfl M⟩
  · replace b1 := of_decide_eq_false b1
    refine rr_bipush (z := (-2)) (pc := 7) B dX9_write_7 (by decide) ?_
    refine rr_ireturn (pc := 9) B Br dX9_write_9 ⟨congrArg (fun z => some (aI z)) ?_, ?_⟩
    · unfold vWrit; repeat (first | rw [if_pos (by omega)] | rw [if_neg (by omega)])
    · unfold sWrit mee; repeat (first | rw [if_pos (by omega)] | rw [if_neg (by omega)])
      first | exact ⟨bs_ms H0 _ _ _, co_ms (co_rfl M) (by decide)⟩ | exact ⟨H0, co_rfl M⟩
