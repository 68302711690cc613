theorem trBr (V : ax_M) (h : Int) {n : Int} (hn : 0 ≤ n ∧ n ≤ 8) : 0 ≤ trB V h n ∧ trB V h n < 256 := by
  unfold trB
  refine itI_inv (fun _ x => 0 ≤ x ∧ x < 256) hn.1 (by decide) (fun i x a b q => ?_)
  have h2 := p2_le (a := i) (b := 7) (by omega)
  have h3 : p2 7 = 128 := rfl
  have h4 := p2_pos i
  refine nO_lt 8 q ?_
  show 0 ≤ (if trn V i h = true then p2 i else 0) ∧ (if trn V i h = true then p2 i else 0) < (256 : Int)
  split <;> omega
set_option maxHeartbeats 16000000 in
set_option maxRecDepth 100000 in
theorem ct_X4_joinHour (g : ax_G) (M : ax_M) (h : Int) (V : ax_M) (H0 : AgC V M) (H1 : RO V M) (H2 : 0 ≤ h ∧ h ≤ 7) (H3 : M 4 7 = hopD V (V 9 2)) (H4 : ∀ t, 0 ≤ t → t < p2 (V 9 2) → M 29 t = tg V h t) : CT g md_X4_joinHour 2 [aR 4, aI h] M (pVR (fun M2 => ((∀ u, 0 ≤ u → u < 256 → nD u (M 4 7) = 0 → gC V h (M 27) (M2 27 u) u (M 4 7 + 1)) ∧ (∀ u, 0 ≤ u → u < 256 → nD u (M 4 7) ≠ 0 → M2 27 u = M 27 u)) ∧ frm exJ M M2)) := by
  refine ct_intro 4 rfl rfl ?_
  intro X hg B Br
  subst hg
  show AW X 0 [some (aR 4), some (aI h), none, none, none, none] [] M
  refine rr_rg (fun G0 => ?_)
  have HC := H0
  have N8 : 0 ≤ V 9 2 ∧ V 9 2 ≤ 8 := by have := G0.at ob_0_6.2.1; rw [HC.1] at this; exact this
  have HO := H1
  have P57 : ∀ p, 0 ≤ p → p < 8 → 0 ≤ V 57 p ∧ V 57 p ≤ 99 := fun p a b => by have := G0.at (sa_15.2.2 (p * 4 + 2)); rw [(HC.2.2.1 p a (by omega)).2.2.1] at this; exact this
  have A8 := hop_r V N8
  have AL := hop_lt V N8
  have R99 : 0 ≤ V 60 0 ∧ V 60 0 ≤ 999 := by have := G0.at (sa_17.2.2 0); rw [HC.2.2.2.2.1 0 (by decide) (by decide)] at this; exact this
  have TL := fun t => tg_lt (V := V) (h := h) (t := t) N8 H2 P57
  have MB : ∀ a k, 0 ≤ a → a < p2 (V 9 2) → tb a k = true → k < V 9 2 := fun a k h0 h1 e => by have := tb_lt (a := a) (k := k) (V 9 2).toNat ⟨h0, by unfold p2 at h1; exact h1⟩ e; omega
  have TB := trBr V h N8
  have L : ∀ nn : Nat, (∀ (M1 : ax_M) (s : Int), (1 ≤ s ∧ s ≤ M 4 7 + 1) → (frm exJ M M1) → (∀ u, 0 ≤ u → u < 256 → M1 28 u = M 27 u) → (∀ u, 0 ≤ u → u < 256 → nD u (M 4 7) = 0 → gC V h (M 27) (M1 27 u) u (s)) → (∀ u, 0 ≤ u → u < 256 → nD u (M 4 7) ≠ 0 → M1 27 u = M 27 u) → ((300 - s).toNat) < nn → AW X 43 [some (aR 4), some (aI h), some (aI (trB V h (V 9 2))), some (aL (V 60 0 * 43046721)), none, some (aI s)] [] M1) ∧ True := by
    intro nn
    induction nn with
    | zero => exact ⟨by intros; omega, trivial⟩
    | succ nn ih =>
      refine ⟨?_, trivial⟩
      · intro M1 s K0 K1 K2 K3 K4 hm
        refine rr_rg (fun G1 => ?_)
        refine rr_iload5 (pc := 43) B dX4_joinHour_43 ?_
        refine rr_aload0 (pc := 45) B dX4_joinHour_45 ?_
        refine rr_getIE (pc := 46) B dX4_joinHour_46 fl_4_36 ob_4_7 ((K1 4 7 rfl)) (fun b1 => ?_)
        refine rr_icmp_gt 98 (pc := 49) B dX4_joinHour_49 (by decide) (by omega) (fun b2 => ?_) (fun b2 => ?_)
        · refine rr_return (pc := 98) B Br dX4_joinHour_98 ⟨rfl, ?_⟩
          · exact ⟨⟨fun u a b c => by have z := K3 u a b c; rw [show s = M 4 7 + 1 by omega] at z; exact z, K4⟩, K1⟩
        · refine rr_aload0 (pc := 52) B dX4_joinHour_52 ?_
          refine rr_getR (pc := 53) B dX4_joinHour_53 fl_4_29 or_4_6 ?_
          refine rr_iload5 (pc := 56) B dX4_joinHour_56 ?_
          refine rr_laloadE (pc := 58) B dX4_joinHour_58 sa_29 (by omega) ((K1 29 _ rfl).trans (H4 _ (by omega) (by omega))) (fun b3 => ?_)
          refine rr_ldc2 (z := 1152921504606846976) (pc := 59) B dX4_joinHour_59 cn_4_40 (by decide) ?_
          refine rr_lcmp_ge 92 (pc := 62) B dX4_joinHour_62 dX4_joinHour_63 (by decide) (by have := (TL s).2; unfold NV at this; omega) (fun b4 => ?_) (fun b4 => ?_)
          · refine rr_iinc5 (z := 1) (pc := 92) B dX4_joinHour_92 rfl ?_
            refine rr_goto 43 (pc := 95) B dX4_joinHour_95 (by decide) ?_
            refine ih.1 _ _ ?_ ?_ ?_ ?_ ?_ ?_
            · omega
            · first | exact K1 | exact frm_tr K1 (frm_mono b0.2 (fun k i e => by unfold exJ at e; have e := of_decide_eq_false e; exact decide_eq_false (by omega)))
            · first | exact K2 | (intro u a b; exact (b0.2 28 u rfl).trans (K2 u a b))
            · intro u a b c
              first
                | exact gC_n (K3 u a b c) (fun z => by have := (TL s).1.mpr z.2.1; unfold NV at this; omega)
                | (refine gC_j (by omega) (K3 u a b c) OKS EV (M 4 7) c ?_
                   have z := b0.1 u a b
                   rw [K2 (nD u s) (nD_le u s a).1 (by have := (nD_le u s a).2; omega), show M1 4 7 = M 4 7 from K1 4 7 rfl] at z
                   exact z)
            · intro u a b c
              first
                | exact K4 u a b c
                | (have z := b0.1 u a b
                   rw [z, if_neg (fun y => c ((congrArg (nD u) (show M 4 7 = M1 4 7 from (K1 4 7 rfl).symm)).trans y.1.2))]
                   exact K4 u a b c)
            · omega
          · have OKS : okT V s h = true := (TL s).1.mp (by unfold NV; omega)
            have OK3 := (TL s).2.2.2 OKS
            refine rr_aload0 (pc := 66) B dX4_joinHour_66 ?_
            refine rr_iload5 (pc := 67) B dX4_joinHour_67 ?_
            refine rr_aload0 (pc := 69) B dX4_joinHour_69 ?_
            refine rr_getR (pc := 70) B dX4_joinHour_70 fl_4_29 or_4_6 ?_
            refine rr_iload5 (pc := 73) B dX4_joinHour_73 ?_
            refine rr_laloadE (pc := 75) B dX4_joinHour_75 sa_29 (by omega) ((K1 29 _ rfl).trans (H4 _ (by omega) (by omega))) (fun b5 => ?_)
            refine rr_iload5 (pc := 76) B dX4_joinHour_76 ?_
            refine rr_iload2 (pc := 78) B dX4_joinHour_78 ?_
            refine rr_andN (pc := 79) B dX4_joinHour_79 (by omega) (fun b6 => ?_)
            refine rr_if_eq 87 (pc := 80) B dX4_joinHour_80 (by decide) (by omega) (fun b7 => ?_) (fun b7 => ?_)
            · refine rr_lconst0 (pc := 87) B dX4_joinHour_87 ?_
              refine rr_ladd (pc := 88) B dX4_joinHour_88 ?_
              have EV : tg V h s + 0 = vC V h s := by
                rw [vC_tg N8.1 (fun k hk e => MB s k (by omega) (by omega) e) OKS]
                rw [if_neg (by omega)]
              refine rc_VVR2 (pc := 89) B dX4_joinHour_89 vm_X4_joinWithRest lk_4_73 so_4 rfl (ct_X4_joinWithRest _ _ _ _  (by omega) (by rw [K1 4 7 rfl, H3]; exact ok_hop N8.1 (by omega) (by omega) OKS) (by have := (TL s).2; omega)) (Nat.le_of_ble_eq_true rfl) (Nat.le_of_ble_eq_true rfl) (fun Mb8 b8 => ?_)
              refine rr_iinc5 (z := 1) (pc := 92) B dX4_joinHour_92 rfl ?_
              refine rr_goto 43 (pc := 95) B dX4_joinHour_95 (by decide) ?_
              refine ih.1 _ _ ?_ ?_ ?_ ?_ ?_ ?_
              · omega
              · first | exact K1 | exact frm_tr K1 (frm_mono b8.2 (fun k i e => by unfold exJ at e; have e := of_decide_eq_false e; exact decide_eq_false (by omega)))
              · first | exact K2 | (intro u a b; exact (b8.2 28 u rfl).trans (K2 u a b))
              · intro u a b c
                first
                  | exact gC_n (K3 u a b c) (fun z => by have := (TL s).1.mpr z.2.1; unfold NV at this; omega)
                  | (refine gC_j (by omega) (K3 u a b c) OKS EV (M 4 7) c ?_
                     have z := b8.1 u a b
                     rw [K2 (nD u s) (nD_le u s a).1 (by have := (nD_le u s a).2; omega), show M1 4 7 = M 4 7 from K1 4 7 rfl] at z
                     exact z)
              · intro u a b c
                first
                  | exact K4 u a b c
                  | (have z := b8.1 u a b
                     rw [z, if_neg (fun y => c ((congrArg (nD u) (show M 4 7 = M1 4 7 from (K1 4 7 rfl).symm)).trans y.1.2))]
                     exact K4 u a b c)
              · omega
            · refine rr_lload3 (pc := 83) B dX4_joinHour_83 ?_
              refine rr_goto 88 (pc := 84) B dX4_joinHour_84 (by decide) ?_
              refine rr_ladd (pc := 88) B dX4_joinHour_88 ?_
              have EV : tg V h s + V 60 0 * 43046721 = vC V h s := by
                rw [vC_tg N8.1 (fun k hk e => MB s k (by omega) (by omega) e) OKS]
                rw [if_pos (by omega)]; rfl
              refine rc_VVR2 (pc := 89) B dX4_joinHour_89 vm_X4_joinWithRest lk_4_73 so_4 rfl (ct_X4_joinWithRest _ _ _ _  (by omega) (by rw [K1 4 7 rfl, H3]; exact ok_hop N8.1 (by omega) (by omega) OKS) (by have := (TL s).2; omega)) (Nat.le_of_ble_eq_true rfl) (Nat.le_of_ble_eq_true rfl) (fun Mb8 b8 => ?_)
              refine rr_iinc5 (z := 1) (pc := 92) B dX4_joinHour_92 rfl ?_
              refine rr_goto 43 (pc := 95) B dX4_joinHour_95 (by decide) ?_
              refine ih.1 _ _ ?_ ?_ ?_ ?_ ?_ ?_
              · omega
              · first | exact K1 | exact frm_tr K1 (frm_mono b8.2 (fun k i e => by unfold exJ at e; have e := of_decide_eq_false e; exact decide_eq_false (by omega)))
              · first | exact K2 | (intro u a b; exact (b8.2 28 u rfl).trans (K2 u a b))
              · intro u a b c
                first
                  | exact gC_n (K3 u a b c) (fun z => by have := (TL s).1.mpr z.2.1; unfold NV at this; omega)
                  | (refine gC_j (by omega) (K3 u a b c) OKS EV (M 4 7) c ?_
                     have z := b8.1 u a b
                     rw [K2 (nD u s) (nD_le u s a).1 (by have := (nD_le u s a).2; omega), show M1 4 7 = M 4 7 from K1 4 7 rfl] at z
                     exact z)
              · intro u a b c
                first
                  | exact K4 u a b c
                  | (have z := b8.1 u a b
                     rw [z, if_neg (fun y => c ((congrArg (nD u) (show M 4 7 = M1 4 7 from (K1 4 7 rfl).symm)).trans y.1.2))]
                     exact K4 u a b c)
              · omega
  refine rr_aload0 (pc := 0) B dX4_joinHour_0 ?_
  refine rr_getR (pc := 1) B dX4_joinHour_1 fl_4_22 or_4_4 ?_
  refine rr_iconst (z := 0) (pc := 4) B dX4_joinHour_4 ?_
  refine rr_aload0 (pc := 5) B dX4_joinHour_5 ?_
  refine rr_getR (pc := 6) B dX4_joinHour_6 fl_4_26 or_4_5 ?_
  refine rr_iconst (z := 0) (pc := 9) B dX4_joinHour_9 ?_
  refine rr_sipush (z := 256) (pc := 10) B dX4_joinHour_10 (by decide) ?_
  refine rr_copyL (pc := 13) B dX4_joinHour_13 (by decide) lk_4_52 cp_nat cp_st cp_ini sa_27 sa_28 (by decide) (Nat.le_of_ble_eq_true rfl) ?_
  refine rr_aload0 (pc := 16) B dX4_joinHour_16 ?_
  refine rr_iload1 (pc := 17) B dX4_joinHour_17 ?_
  refine rc_VI1 (pc := 18) B dX4_joinHour_18 vm_X4_turnedBy lk_4_58 so_4 rfl (ct_X4_turnedBy _ _ _ V (agc_Q H0 (mc_Q M)) (ro_Q H1 (mc_Q M)) (by omega)) (Nat.le_of_ble_eq_true rfl) (Nat.le_of_ble_eq_true rfl) ?_
  refine rr_istore2 (pc := 21) B dX4_joinHour_21 rfl ?_
  refine rr_aload0 (pc := 22) B dX4_joinHour_22 ?_
  refine rr_getR (pc := 23) B dX4_joinHour_23 fl_4_18 or_4_3 ?_
  refine rr_getR (pc := 26) B dX4_joinHour_26 fl_4_62 or_2_2 ?_
  refine rr_getR (pc := 29) B dX4_joinHour_29 fl_4_66 or_1_2 ?_
  refine rr_iconst (z := 0) (pc := 32) B dX4_joinHour_32 ?_
  refine rr_ialoadE (pc := 33) B dX4_joinHour_33 sa_17 (by omega) (HC.2.2.2.2.1 _ (by omega) (by omega)) (fun b1 => ?_)
  refine rr_i2l (pc := 34) B dX4_joinHour_34 (by omega) ?_
  refine rr_ldc2 (z := 43046721) (pc := 35) B dX4_joinHour_35 cn_4_71 (by decide) ?_
  refine rr_lmul (pc := 38) B dX4_joinHour_38 ?_
  refine rr_lstore3 (pc := 39) B dX4_joinHour_39 rfl ?_
  refine rr_iconst (z := 1) (pc := 40) B dX4_joinHour_40 ?_
  refine rr_istore5 (pc := 41) B dX4_joinHour_41 rfl ?_
  refine (L _).1 _ _ ?_ ?_ ?_ ?_ ?_ (Nat.lt_succ_self _)
  · omega
  · exact mc_J M
  · intro u a b
    show (if 28 = 28 ∧ 0 ≤ u ∧ u < 0 + 256 then M 27 (0 + (u - 0)) else M 28 u) = _
    rw [if_pos ⟨rfl, by omega, by omega⟩, show 0 + (u - 0) = u by omega]
  · intro u a b c; exact gC_1 N8.1 a
  · intro u a b c; rfl
