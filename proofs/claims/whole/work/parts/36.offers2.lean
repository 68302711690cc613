set_option maxHeartbeats 4000000 in
set_option maxRecDepth 100000 in
theorem ct_X2_isOpen (g : ax_G) (M : ax_M) (d h : Int) (V : ax_M) (H0 : AgC V M) (H1 : RO V M) (H2 : 0 ≤ d ∧ d < V 9 2) (H3 : 0 ≤ h ∧ h ≤ 7) : CT g md_X2_isOpen 0 [aR 2, aI d, aI h] M (pI (bi (decide (cm V d h ≠ -3))) (M)) := by
  refine ct_intro 0 rfl rfl ?_
  intro X hg B Br
  subst hg
  show AW X 0 [some (aR 2), some (aI d), some (aI h)] [] M
  refine rr_rg (fun G0 => ?_)
  have HC := H0
  have N8 : 0 ≤ V 9 2 ∧ V 9 2 ≤ 8 := by have := G0.at ob_0_6.2.1; rw [HC.1] at this; exact this
  have HO := H1
  refine rr_aload0 (pc := 0) B dX2_isOpen_0 ?_
  refine rr_getR (pc := 1) B dX2_isOpen_1 fl_2_43 or_2_6 ?_
  refine rr_iload1 (pc := 4) B dX2_isOpen_4 ?_
  refine rr_bipush (z := 8) (pc := 5) B dX2_isOpen_5 (by decide) ?_
  refine rr_imul (pc := 7) B dX2_isOpen_7 ?_
  refine rr_iload2 (pc := 8) B dX2_isOpen_8 ?_
  refine rr_iadd (pc := 9) B dX2_isOpen_9 ?_
  refine rr_ialoadE (pc := 10) B dX2_isOpen_10 sa_21 (by omega) (((HO _ (by omega) (by omega)).2.2 _ (by omega) (by omega)).1) (fun b1 => ?_)
  refine rr_iconst (z := (-1)) (pc := 11) B dX2_isOpen_11 ?_
  refine rr_icmp_eq 19 (pc := 12) B dX2_isOpen_12 (by decide) (by have := who_r V d h; omega) (fun b2 => ?_) (fun b2 => ?_)
  · refine rr_iconst (z := 0) (pc := 19) B dX2_isOpen_19 ?_
    refine rr_zreturn (pc := 20) B Br dX2_isOpen_20 (by omega) ⟨congrArg (fun z => some (aI z)) ?_, ?_⟩
    · have := who_iff V d h; first | (rw [decide_eq_true (by omega)]; rfl) | (rw [decide_eq_false (by omega)]; rfl)
    · first | rfl | assumption
  · refine rr_iconst (z := 1) (pc := 15) B dX2_isOpen_15 ?_
    refine rr_goto 20 (pc := 16) B dX2_isOpen_16 (by decide) ?_
    refine rr_zreturn (pc := 20) B Br dX2_isOpen_20 (by omega) ⟨congrArg (fun z => some (aI z)) ?_, ?_⟩
    · have := who_iff V d h; first | (rw [decide_eq_true (by omega)]; rfl) | (rw [decide_eq_false (by omega)]; rfl)
    · first | rfl | assumption
set_option maxHeartbeats 4000000 in
set_option maxRecDepth 100000 in
theorem ct_X2_whoComes (g : ax_G) (M : ax_M) (d h : Int) (V : ax_M) (H0 : AgC V M) (H1 : RO V M) (H2 : 0 ≤ d ∧ d < V 9 2) (H3 : 0 ≤ h ∧ h ≤ 7) : CT g md_X2_whoComes 0 [aR 2, aI d, aI h] M (pI (whoV V d h) (M)) := by
  refine ct_intro 0 rfl rfl ?_
  intro X hg B Br
  subst hg
  show AW X 0 [some (aR 2), some (aI d), some (aI h)] [] M
  refine rr_rg (fun G0 => ?_)
  have HC := H0
  have N8 : 0 ≤ V 9 2 ∧ V 9 2 ≤ 8 := by have := G0.at ob_0_6.2.1; rw [HC.1] at this; exact this
  have HO := H1
  refine rr_aload0 (pc := 0) B dX2_whoComes_0 ?_
  refine rr_getR (pc := 1) B dX2_whoComes_1 fl_2_43 or_2_6 ?_
  refine rr_iload1 (pc := 4) B dX2_whoComes_4 ?_
  refine rr_bipush (z := 8) (pc := 5) B dX2_whoComes_5 (by decide) ?_
  refine rr_imul (pc := 7) B dX2_whoComes_7 ?_
  refine rr_iload2 (pc := 8) B dX2_whoComes_8 ?_
  refine rr_iadd (pc := 9) B dX2_whoComes_9 ?_
  refine rr_ialoadE (pc := 10) B dX2_whoComes_10 sa_21 (by omega) (((HO _ (by omega) (by omega)).2.2 _ (by omega) (by omega)).1) (fun b1 => ?_)
  refine rr_ireturn (pc := 11) B Br dX2_whoComes_11 ⟨congrArg (fun z => some (aI z)) ?_, ?_⟩
  · first | rfl | omega | (rw [decide_eq_true (by omega)]; rfl) | (rw [decide_eq_false (by omega)]; rfl) | (simp [*]; done)
  · first | rfl | assumption
set_option maxHeartbeats 4000000 in
set_option maxRecDepth 100000 in
theorem ct_X2_priceOfPeople (g : ax_G) (M : ax_M) (d h : Int) (H0 : 0 ≤ d ∧ d < 8) (H1 : 0 ≤ h ∧ h ≤ 7) : CT g md_X2_priceOfPeople 0 [aR 2, aI d, aI h] M (pI (M 22 (d * 8 + h)) (M)) := by
  refine ct_intro 0 rfl rfl ?_
  intro X hg B Br
  subst hg
  show AW X 0 [some (aR 2), some (aI d), some (aI h)] [] M
  refine rr_rg (fun G0 => ?_)
  refine rr_aload0 (pc := 0) B dX2_priceOfPeople_0 ?_
  refine rr_getR (pc := 1) B dX2_priceOfPeople_1 fl_2_46 or_2_7 ?_
  refine rr_iload1 (pc := 4) B dX2_priceOfPeople_4 ?_
  refine rr_bipush (z := 8) (pc := 5) B dX2_priceOfPeople_5 (by decide) ?_
  refine rr_imul (pc := 7) B dX2_priceOfPeople_7 ?_
  refine rr_iload2 (pc := 8) B dX2_priceOfPeople_8 ?_
  refine rr_iadd (pc := 9) B dX2_priceOfPeople_9 ?_
  refine rr_iaload (pc := 10) B dX2_priceOfPeople_10 sa_22 (by omega) (fun b1 => ?_)
  refine rr_ireturn (pc := 11) B Br dX2_priceOfPeople_11 ⟨congrArg (fun z => some (aI z)) ?_, ?_⟩
  · first | rfl | omega | (rw [decide_eq_true (by omega)]; rfl) | (rw [decide_eq_false (by omega)]; rfl) | (simp [*]; done)
  · first | rfl | assumption
set_option maxHeartbeats 4000000 in
set_option maxRecDepth 100000 in
theorem ct_X2_fullPrice (g : ax_G) (M : ax_M) (d h : Int) (V : ax_M) (H0 : AgC V M) (H1 : RO V M) (H2 : 0 ≤ d ∧ d < V 9 2) (H3 : 0 ≤ h ∧ h ≤ 7) (H4 : cm V d h ≠ -3) : CT g md_X2_fullPrice 1 [aR 2, aI d, aI h] M (pI (cst V d h) (M)) := by
  refine ct_intro 0 rfl rfl ?_
  intro X hg B Br
  subst hg
  show AW X 0 [some (aR 2), some (aI d), some (aI h)] [] M
  refine rr_rg (fun G0 => ?_)
  have HC := H0
  have N8 : 0 ≤ V 9 2 ∧ V 9 2 ≤ 8 := by have := G0.at ob_0_6.2.1; rw [HC.1] at this; exact this
  have HO := H1
  refine rr_aload0 (pc := 0) B dX2_fullPrice_0 ?_
  refine rr_iload1 (pc := 1) B dX2_fullPrice_1 ?_
  refine rr_iload2 (pc := 2) B dX2_fullPrice_2 ?_
  refine rc_VI2 (pc := 3) B dX2_fullPrice_3 vm_X2_priceOfPeople lk_2_109 so_2 rfl (ct_X2_priceOfPeople _ _ _ _  (by omega) (by omega)) (Nat.le_of_ble_eq_true rfl) (Nat.le_of_ble_eq_true rfl) ?_
  refine rr_aload0 (pc := 6) B dX2_fullPrice_6 ?_
  refine rr_iload1 (pc := 7) B dX2_fullPrice_7 ?_
  refine rr_iload2 (pc := 8) B dX2_fullPrice_8 ?_
  refine rc_VI2 (pc := 9) B dX2_fullPrice_9 vm_X2_isTurned lk_2_103 so_2 rfl (ct_X2_isTurned _ _ _ _ V (HC) (by omega) (by omega) ((HO _ (by omega) (by omega)).1)) (Nat.le_of_ble_eq_true rfl) (Nat.le_of_ble_eq_true rfl) ?_
  refine rr_if_eqB 27 (pc := 12) B dX2_fullPrice_12 (by decide) (fun b1 => ?_) (fun b1 => ?_)
  · refine rr_iconst (z := 0) (pc := 27) B dX2_fullPrice_27 ?_
    refine rr_iadd (pc := 28) B dX2_fullPrice_28 ?_
    refine rr_ireturn (pc := 29) B Br dX2_fullPrice_29 ⟨congrArg (fun z => some (aI z)) ?_, ?_⟩
    · unfold cst; rw [if_neg H4, ((HO d H2.1 H2.2).2.2 h H3.1 H3.2).2 H4]; first | (rw [if_pos (by assumption)]; done) | (rw [if_neg (by simp_all)]; done)
    · first | rfl | assumption
  · refine rr_aload0 (pc := 15) B dX2_fullPrice_15 ?_
    refine rr_getR (pc := 16) B dX2_fullPrice_16 fl_2_28 or_2_2 ?_
    refine rr_getR (pc := 19) B dX2_fullPrice_19 fl_2_106 or_1_2 ?_
    refine rr_iconst (z := 0) (pc := 22) B dX2_fullPrice_22 ?_
    refine rr_ialoadE (pc := 23) B dX2_fullPrice_23 sa_17 (by omega) (HC.2.2.2.2.1 _ (by omega) (by omega)) (fun b2 => ?_)
    refine rr_goto 28 (pc := 24) B dX2_fullPrice_24 (by decide) ?_
    refine rr_iadd (pc := 28) B dX2_fullPrice_28 ?_
    refine rr_ireturn (pc := 29) B Br dX2_fullPrice_29 ⟨congrArg (fun z => some (aI z)) ?_, ?_⟩
    · unfold cst; rw [if_neg H4, ((HO d H2.1 H2.2).2.2 h H3.1 H3.2).2 H4]; first | (rw [if_pos (by assumption)]; done) | (rw [if_neg (by simp_all)]; done)
    · first | rfl | assumption
set_option maxHeartbeats 4000000 in
set_option maxRecDepth 100000 in
theorem ct_X2_openHours (g : ax_G) (M : ax_M) (d : Int) (V : ax_M) (H0 : AgC V M) (H1 : RO V M) (H2 : 0 ≤ d ∧ d < V 9 2) : CT g md_X2_openHours 1 [aR 2, aI d] M (pI (hrs V d) (M)) := by
  refine ct_intro 2 rfl rfl ?_
  intro X hg B Br
  subst hg
  show AW X 0 [some (aR 2), some (aI d), none, none] [] M
  refine rr_rg (fun G0 => ?_)
  have HC := H0
  have N8 : 0 ≤ V 9 2 ∧ V 9 2 ≤ 8 := by have := G0.at ob_0_6.2.1; rw [HC.1] at this; exact this
  have HO := H1
  have L : ∀ nn : Nat, (∀ (b h : Int), (0 ≤ h ∧ h ≤ 8) → (b = itI (fun h b => nO b (bi (decide (cm V d h ≠ -3)) * p2 h)) 0 h) → (0 ≤ b ∧ b < 256) → ((8 - h).toNat) < nn → AW X 4 [some (aR 2), some (aI d), some (aI b), some (aI h)] [] M) ∧ True := by
    intro nn
    induction nn with
    | zero => exact ⟨by intros; omega, trivial⟩
    | succ nn ih =>
      refine ⟨?_, trivial⟩
      · intro b h K0 K1 K2 hm
        refine rr_iload3 (pc := 4) B dX2_openHours_4 ?_
        refine rr_bipush (z := 8) (pc := 5) B dX2_openHours_5 (by decide) ?_
        refine rr_icmp_ge 31 (pc := 7) B dX2_openHours_7 (by decide) (by omega) (fun b1 => ?_) (fun b1 => ?_)
        · refine rr_iload2 (pc := 31) B dX2_openHours_31 ?_
          refine rr_ireturn (pc := 32) B Br dX2_openHours_32 ⟨congrArg (fun z => some (aI z)) ?_, ?_⟩
          · rw [K1, show h = 8 by omega]; rfl
          · first | rfl | assumption
        · refine rr_aload0 (pc := 10) B dX2_openHours_10 ?_
          refine rr_iload1 (pc := 11) B dX2_openHours_11 ?_
          refine rr_iload3 (pc := 12) B dX2_openHours_12 ?_
          refine rc_VI2 (pc := 13) B dX2_openHours_13 vm_X2_isOpen lk_2_112 so_2 rfl (ct_X2_isOpen _ _ _ _ V (HC) (HO) (by omega) (by omega)) (Nat.le_of_ble_eq_true rfl) (Nat.le_of_ble_eq_true rfl) ?_
          refine rr_if_eqB 25 (pc := 16) B dX2_openHours_16 (by decide) (fun b2 => ?_) (fun b2 => ?_)
          · replace b2 := of_decide_eq_false b2
            refine rr_iinc3 (z := 1) (pc := 25) B dX2_openHours_25 rfl ?_
            refine rr_goto 4 (pc := 28) B dX2_openHours_28 (by decide) ?_
            refine ih.1 _ _ ?_ ?_ ?_ ?_
            · omega
            · rw [itI_s _ _ (by omega), ← K1, hrs_st _ _ _ K2.1]; first | (rw [if_pos (by rw [decide_eq_true (by assumption)])]; done) | (rw [if_neg (by rw [decide_eq_false (by assumption)]; decide)]; done)
            · omega
            · omega
          · replace b2 := of_decide_eq_true b2
            refine rr_iload2 (pc := 19) B dX2_openHours_19 ?_
            refine rr_iconst (z := 1) (pc := 20) B dX2_openHours_20 ?_
            refine rr_iload3 (pc := 21) B dX2_openHours_21 ?_
            refine rr_shl1 (pc := 22) B dX2_openHours_22 (by omega) (fun b3 => ?_)
            refine rr_orN 8 (pc := 23) B dX2_openHours_23 (by decide) (by have q2 := p2_le (a := h) (b := 7) (by omega); have q3 : p2 7 = 128 := rfl; omega) (fun b4 => ?_)
            refine rr_istore2 (pc := 24) B dX2_openHours_24 rfl ?_
            refine rr_iinc3 (z := 1) (pc := 25) B dX2_openHours_25 rfl ?_
            refine rr_goto 4 (pc := 28) B dX2_openHours_28 (by decide) ?_
            refine ih.1 _ _ ?_ ?_ ?_ ?_
            · omega
            · rw [itI_s _ _ (by omega), ← K1, hrs_st _ _ _ K2.1]; first | (rw [if_pos (by rw [decide_eq_true (by assumption)])]; done) | (rw [if_neg (by rw [decide_eq_false (by assumption)]; decide)]; done)
            · omega
            · omega
  refine rr_iconst (z := 0) (pc := 0) B dX2_openHours_0 ?_
  refine rr_istore2 (pc := 1) B dX2_openHours_1 rfl ?_
  refine rr_iconst (z := 0) (pc := 2) B dX2_openHours_2 ?_
  refine rr_istore3 (pc := 3) B dX2_openHours_3 rfl ?_
  refine (L _).1 _ _ ?_ ?_ ?_ (Nat.lt_succ_self _)
  · omega
  · rfl
  · omega
set_option maxHeartbeats 4000000 in
set_option maxRecDepth 100000 in
theorem ct_X2_hopefulDeeds (g : ax_G) (M : ax_M) (V : ax_M) (H0 : AgC V M) (H1 : RO V M) : CT g md_X2_hopefulDeeds 2 [aR 2] M (pI (hopD V (V 9 2)) (M)) := by
  refine ct_intro 2 rfl rfl ?_
  intro X hg B Br
  subst hg
  show AW X 0 [some (aR 2), none, none] [] M
  refine rr_rg (fun G0 => ?_)
  have HC := H0
  have N8 : 0 ≤ V 9 2 ∧ V 9 2 ≤ 8 := by have := G0.at ob_0_6.2.1; rw [HC.1] at this; exact this
  have HO := H1
  have L : ∀ nn : Nat, (∀ (b d : Int), (0 ≤ d ∧ d ≤ V 9 2) → (b = hopD V d) → (0 ≤ b ∧ b < 256) → ((8 - d).toNat) < nn → AW X 4 [some (aR 2), some (aI b), some (aI d)] [] M) ∧ True := by
    intro nn
    induction nn with
    | zero => exact ⟨by intros; omega, trivial⟩
    | succ nn ih =>
      refine ⟨?_, trivial⟩
      · intro b d K0 K1 K2 hm
        refine rr_iload2 (pc := 4) B dX2_hopefulDeeds_4 ?_
        refine rr_aload0 (pc := 5) B dX2_hopefulDeeds_5 ?_
        refine rr_getR (pc := 6) B dX2_hopefulDeeds_6 fl_2_12 or_2_0 ?_
        refine rr_getIE (pc := 9) B dX2_hopefulDeeds_9 fl_2_55 ob_0_6 (HC.1) (fun b1 => ?_)
        refine rr_icmp_ge 35 (pc := 12) B dX2_hopefulDeeds_12 (by decide) (by omega) (fun b2 => ?_) (fun b2 => ?_)
        · refine rr_iload1 (pc := 35) B dX2_hopefulDeeds_35 ?_
          refine rr_ireturn (pc := 36) B Br dX2_hopefulDeeds_36 ⟨congrArg (fun z => some (aI z)) ?_, ?_⟩
          · rw [K1, show d = V 9 2 by omega]
          · first | rfl | assumption
        · refine rr_aload0 (pc := 15) B dX2_hopefulDeeds_15 ?_
          refine rr_iload2 (pc := 16) B dX2_hopefulDeeds_16 ?_
          refine rc_VI1 (pc := 17) B dX2_hopefulDeeds_17 vm_X2_openHours lk_2_115 so_2 rfl (ct_X2_openHours _ _ _ V (HC) (HO) (by omega)) (Nat.le_of_ble_eq_true rfl) (Nat.le_of_ble_eq_true rfl) ?_
          refine rr_if_eq 29 (pc := 20) B dX2_hopefulDeeds_20 (by decide) (by have := hrs_r V d; omega) (fun b3 => ?_) (fun b3 => ?_)
          · refine rr_iinc2 (z := 1) (pc := 29) B dX2_hopefulDeeds_29 rfl ?_
            refine rr_goto 4 (pc := 32) B dX2_hopefulDeeds_32 (by decide) ?_
            refine ih.1 _ _ ?_ ?_ ?_ ?_
            · omega
            · rw [show hopD V (d + 1) = nO (hopD V d) (if hrs V d = 0 then 0 else p2 d) from itI_s _ _ (by omega), ← K1]; first | (rw [if_neg (by omega)]; done) | (rw [if_pos (by omega), nO_0 K2.1]; done)
            · omega
            · omega
          · refine rr_iload1 (pc := 23) B dX2_hopefulDeeds_23 ?_
            refine rr_iconst (z := 1) (pc := 24) B dX2_hopefulDeeds_24 ?_
            refine rr_iload2 (pc := 25) B dX2_hopefulDeeds_25 ?_
            refine rr_shl1 (pc := 26) B dX2_hopefulDeeds_26 (by omega) (fun b4 => ?_)
            refine rr_orN 8 (pc := 27) B dX2_hopefulDeeds_27 (by decide) (by have q2 := p2_le (a := d) (b := 7) (by omega); have q3 : p2 7 = 128 := rfl; omega) (fun b5 => ?_)
            refine rr_istore1 (pc := 28) B dX2_hopefulDeeds_28 rfl ?_
            refine rr_iinc2 (z := 1) (pc := 29) B dX2_hopefulDeeds_29 rfl ?_
            refine rr_goto 4 (pc := 32) B dX2_hopefulDeeds_32 (by decide) ?_
            refine ih.1 _ _ ?_ ?_ ?_ ?_
            · omega
            · rw [show hopD V (d + 1) = nO (hopD V d) (if hrs V d = 0 then 0 else p2 d) from itI_s _ _ (by omega), ← K1]; first | (rw [if_neg (by omega)]; done) | (rw [if_pos (by omega), nO_0 K2.1]; done)
            · omega
            · omega
  refine rr_iconst (z := 0) (pc := 0) B dX2_hopefulDeeds_0 ?_
  refine rr_istore1 (pc := 1) B dX2_hopefulDeeds_1 rfl ?_
  refine rr_iconst (z := 0) (pc := 2) B dX2_hopefulDeeds_2 ?_
  refine rr_istore2 (pc := 3) B dX2_hopefulDeeds_3 rfl ?_
  refine (L _).1 _ _ ?_ ?_ ?_ (Nat.lt_succ_self _)
  · omega
  · rfl
  · omega
set_option maxHeartbeats 4000000 in
set_option maxRecDepth 100000 in
theorem ct_X2_timesAsked (g : ax_G) (M : ax_M) (p h : Int) (V : ax_M) (H0 : AgC V M) (H1 : RO V M) (H2 : 0 ≤ p ∧ p ≤ 7) (H3 : 0 ≤ h ∧ h ≤ 7) : CT g md_X2_timesAsked 1 [aR 2, aI p, aI h] M (pI (askd V p h) (M)) := by
  refine ct_intro 2 rfl rfl ?_
  intro X hg B Br
  subst hg
  show AW X 0 [some (aR 2), some (aI p), some (aI h), none, none] [] M
  refine rr_rg (fun G0 => ?_)
  have HC := H0
  have N8 : 0 ≤ V 9 2 ∧ V 9 2 ≤ 8 := by have := G0.at ob_0_6.2.1; rw [HC.1] at this; exact this
  have HO := H1
  have L : ∀ nn : Nat, (∀ (n1 d : Int), (0 ≤ d ∧ d ≤ V 9 2) → (n1 = itI (fun d n => n + if cm V d h ≠ -3 ∧ tb (cm V d h) p = true then 1 else 0) 0 d) → ((8 - d).toNat) < nn → AW X 5 [some (aR 2), some (aI p), some (aI h), some (aI n1), some (aI d)] [] M) ∧ True := by
    intro nn
    induction nn with
    | zero => exact ⟨by intros; omega, trivial⟩
    | succ nn ih =>
      refine ⟨?_, trivial⟩
      · intro n1 d K0 K1 hm
        refine rr_iload4 (pc := 5) B dX2_timesAsked_5 ?_
        refine rr_aload0 (pc := 7) B dX2_timesAsked_7 ?_
        refine rr_getR (pc := 8) B dX2_timesAsked_8 fl_2_12 or_2_0 ?_
        refine rr_getIE (pc := 11) B dX2_timesAsked_11 fl_2_55 ob_0_6 (HC.1) (fun b1 => ?_)
        refine rr_icmp_ge 50 (pc := 14) B dX2_timesAsked_14 (by decide) (by omega) (fun b2 => ?_) (fun b2 => ?_)
        · refine rr_iload3 (pc := 50) B dX2_timesAsked_50 ?_
          refine rr_ireturn (pc := 51) B Br dX2_timesAsked_51 ⟨congrArg (fun z => some (aI z)) ?_, ?_⟩
          · rw [K1, show d = V 9 2 by omega]; rfl
          · first | rfl | assumption
        · refine rr_aload0 (pc := 17) B dX2_timesAsked_17 ?_
          refine rr_iload4 (pc := 18) B dX2_timesAsked_18 ?_
          refine rr_iload2 (pc := 20) B dX2_timesAsked_20 ?_
          refine rc_VI2 (pc := 21) B dX2_timesAsked_21 vm_X2_isOpen lk_2_112 so_2 rfl (ct_X2_isOpen _ _ _ _ V (HC) (HO) (by omega) (by omega)) (Nat.le_of_ble_eq_true rfl) (Nat.le_of_ble_eq_true rfl) ?_
          refine rr_if_eqB 44 (pc := 24) B dX2_timesAsked_24 (by decide) (fun b3 => ?_) (fun b3 => ?_)
          · replace b3 := of_decide_eq_false b3
            refine rr_iinc4 (z := 1) (pc := 44) B dX2_timesAsked_44 rfl ?_
            refine rr_goto 5 (pc := 47) B dX2_timesAsked_47 (by decide) ?_
            refine ih.1 _ _ ?_ ?_ ?_
            · omega
            · rw [itI_s _ _ (by omega), ← K1]; first | (rw [if_pos ⟨by assumption, by rw [← who_cm (V := V) (d := d) (h := h) (by assumption)]; assumption⟩]; done) | (rw [if_neg (by rintro ⟨q1, q2⟩; first | omega | (rw [← who_cm q1] at q2; simp_all; done))]; omega)
            · omega
          · replace b3 := of_decide_eq_true b3
            refine rr_aload0 (pc := 27) B dX2_timesAsked_27 ?_
            refine rr_iload4 (pc := 28) B dX2_timesAsked_28 ?_
            refine rr_iload2 (pc := 30) B dX2_timesAsked_30 ?_
            refine rc_VI2 (pc := 31) B dX2_timesAsked_31 vm_X2_whoComes lk_2_118 so_2 rfl (ct_X2_whoComes _ _ _ _ V (HC) (HO) (by omega) (by omega)) (Nat.le_of_ble_eq_true rfl) (Nat.le_of_ble_eq_true rfl) ?_
            refine rr_iload1 (pc := 34) B dX2_timesAsked_34 ?_
            refine rc_NI2 (pc := 35) B dX2_timesAsked_35 st_X8_hasBit lk_2_96 (ct_X8_hasBit _ _ _ _  (by have := who_r V d h; have := who_iff V d h; omega) (by have := who_r V d h; have := who_iff V d h; omega)) (Nat.le_of_ble_eq_true rfl) (Nat.le_of_ble_eq_true rfl) ?_
            refine rr_if_eqB 44 (pc := 38) B dX2_timesAsked_38 (by decide) (fun b4 => ?_) (fun b4 => ?_)
            · refine rr_iinc4 (z := 1) (pc := 44) B dX2_timesAsked_44 rfl ?_
              refine rr_goto 5 (pc := 47) B dX2_timesAsked_47 (by decide) ?_
              refine ih.1 _ _ ?_ ?_ ?_
              · omega
              · rw [itI_s _ _ (by omega), ← K1]; first | (rw [if_pos ⟨by assumption, by rw [← who_cm (V := V) (d := d) (h := h) (by assumption)]; assumption⟩]; done) | (rw [if_neg (by rintro ⟨q1, q2⟩; first | omega | (rw [← who_cm q1] at q2; simp_all; done))]; omega)
              · omega
            · refine rr_iinc3 (z := 1) (pc := 41) B dX2_timesAsked_41 rfl ?_
              refine rr_iinc4 (z := 1) (pc := 44) B dX2_timesAsked_44 rfl ?_
              refine rr_goto 5 (pc := 47) B dX2_timesAsked_47 (by decide) ?_
              refine ih.1 _ _ ?_ ?_ ?_
              · omega
              · rw [itI_s _ _ (by omega), ← K1]; first | (rw [if_pos ⟨by assumption, by rw [← who_cm (V := V) (d := d) (h := h) (by assumption)]; assumption⟩]; done) | (rw [if_neg (by rintro ⟨q1, q2⟩; first | omega | (rw [← who_cm q1] at q2; simp_all; done))]; omega)
              · omega
  refine rr_iconst (z := 0) (pc := 0) B dX2_timesAsked_0 ?_
  refine rr_istore3 (pc := 1) B dX2_timesAsked_1 rfl ?_
  refine rr_iconst (z := 0) (pc := 2) B dX2_timesAsked_2 ?_
  refine rr_istore4 (pc := 3) B dX2_timesAsked_3 rfl ?_
  refine (L _).1 _ _ ?_ ?_ (Nat.lt_succ_self _)
  · omega
  · rfl
set_option maxHeartbeats 4000000 in
set_option maxRecDepth 100000 in
theorem ct_X2_tenths (g : ax_G) (M : ax_M) (d h : Int) (V : ax_M) (H0 : AgC V M) (H1 : RO V M) (H2 : 0 ≤ d ∧ d < V 9 2) (H3 : 0 ≤ h ∧ h ≤ 7) (H4 : cm V d h ≠ -3) (H5 : 0 < V 51 d) : CT g md_X2_tenths 1 [aR 2, aI d, aI h] M (pI (lik V d h) (M)) := by
  refine ct_intro 2 rfl rfl ?_
  intro X hg B Br
  subst hg
  show AW X 0 [some (aR 2), some (aI d), some (aI h), none, none] [] M
  refine rr_rg (fun G0 => ?_)
  have HC := H0
  have N8 : 0 ≤ V 9 2 ∧ V 9 2 ≤ 8 := by have := G0.at ob_0_6.2.1; rw [HC.1] at this; exact this
  have HO := H1
  have W1 := G0.at (sa_14.2.2 d)
  rw [(HC.2.1 d H2.1 H2.2).2.2.2.2] at W1
  have W2 := on_pos (b := V 51 d) (by omega)
  have W3 := on_r (V 51 d)
  have W4 := on_r (cm V d h)
  have W5 := who_cm H4
  have W6 := cm_r V d h
  refine rr_aload0 (pc := 0) B dX2_tenths_0 ?_
  refine rr_getR (pc := 1) B dX2_tenths_1 fl_2_40 or_2_5 ?_
  refine rr_iload1 (pc := 4) B dX2_tenths_4 ?_
  refine rr_zaloadE (pc := 5) B dX2_tenths_5 sa_20 (by omega) ((HO _ (by omega) (by omega)).2.1) (fun b1 => ?_)
  refine rr_if_eqB 13 (pc := 6) B dX2_tenths_6 (by decide) (fun b2 => ?_) (fun b2 => ?_)
  · replace b2 := of_decide_eq_false b2
    refine rr_iconst (z := 0) (pc := 13) B dX2_tenths_13 ?_
    refine rr_istore3 (pc := 14) B dX2_tenths_14 rfl ?_
    refine rr_aload0 (pc := 15) B dX2_tenths_15 ?_
    refine rr_getR (pc := 16) B dX2_tenths_16 fl_2_36 or_2_4 ?_
    refine rr_iload1 (pc := 19) B dX2_tenths_19 ?_
    refine rr_zaloadE (pc := 20) B dX2_tenths_20 sa_19 (by omega) ((HO _ (by omega) (by omega)).1) (fun b3 => ?_)
    refine rr_if_neB 45 (pc := 21) B dX2_tenths_21 (by decide) (fun b4 => ?_) (fun b4 => ?_)
    · replace b4 := of_decide_eq_true b4
      refine rr_iinc3 (z := 3) (pc := 45) B dX2_tenths_45 rfl ?_
      refine rr_aload0 (pc := 48) B dX2_tenths_48 ?_
      refine rr_getR (pc := 49) B dX2_tenths_49 fl_2_12 or_2_0 ?_
      refine rr_getR (pc := 52) B dX2_tenths_52 fl_2_74 or_0_4 ?_
      refine rr_iload1 (pc := 55) B dX2_tenths_55 ?_
      refine rr_ialoadE (pc := 56) B dX2_tenths_56 sa_14 (by omega) ((HC.2.1 _ (by omega) (by omega)).2.2.2.2) (fun b5 => ?_)
      refine rc_SI1 (pc := 57) B dX2_tenths_57 st_J_bitCount lk_2_77 (ct_J_bitCount _ _ _  (by omega)) (Nat.le_of_ble_eq_true rfl) (Nat.le_of_ble_eq_true rfl) ?_
      refine rr_istore4 (pc := 60) B dX2_tenths_60 rfl ?_
      refine rr_iload4 (pc := 62) B dX2_tenths_62 ?_
      refine rr_if_ne 71 (pc := 64) B dX2_tenths_64 (by decide) (by omega) (fun b6 => ?_) (fun b6 => absurd b6 (by omega))
      refine rr_iload3 (pc := 71) B dX2_tenths_71 ?_
      refine rr_iconst (z := 3) (pc := 72) B dX2_tenths_72 ?_
      refine rr_aload0 (pc := 73) B dX2_tenths_73 ?_
      refine rr_iload1 (pc := 74) B dX2_tenths_74 ?_
      refine rr_iload2 (pc := 75) B dX2_tenths_75 ?_
      refine rc_VI2 (pc := 76) B dX2_tenths_76 vm_X2_whoComes lk_2_118 so_2 rfl (ct_X2_whoComes _ _ _ _ V (HC) (HO) (by omega) (by omega)) (Nat.le_of_ble_eq_true rfl) (Nat.le_of_ble_eq_true rfl) ?_
      refine rc_SI1 (pc := 79) B dX2_tenths_79 st_J_bitCount lk_2_77 (ct_J_bitCount _ _ _  (by rw [W5]; omega)) (Nat.le_of_ble_eq_true rfl) (Nat.le_of_ble_eq_true rfl) ?_
      refine rr_imul (pc := 82) B dX2_tenths_82 ?_
      refine rr_iload4 (pc := 83) B dX2_tenths_83 ?_
      refine rr_idiv (pc := 85) B dX2_tenths_85 (by rw [W5]; omega) ?_
      refine rr_iadd (pc := 86) B dX2_tenths_86 ?_
      refine rr_ireturn (pc := 87) B Br dX2_tenths_87 ⟨congrArg (fun z => some (aI z)) ?_, ?_⟩
      · unfold lik; rw [if_neg H4, W5]
        have T1 : trn V d h = true ↔ V 53 (V 47 d) = 1 ∧ V 59 h ≠ V 49 d := by unfold trn; exact decide_eq_true_iff
        by_cases q1 : V 54 (V 47 d) = 1
        · by_cases q2 : V 59 h = V 49 d ∨ trn V d h = true
          · rw [if_pos q1, if_pos q2] <;> (rw [T1] at q2; omega)
          · rw [if_pos q1, if_neg q2] <;> (rw [T1] at q2; omega)
        · by_cases q2 : V 59 h = V 49 d ∨ trn V d h = true
          · rw [if_neg q1, if_pos q2] <;> (rw [T1] at q2; omega)
          · rw [if_neg q1, if_neg q2] <;> (rw [T1] at q2; omega)
      · first | rfl | assumption
    · replace b4 := of_decide_eq_false b4
      refine rr_aload0 (pc := 24) B dX2_tenths_24 ?_
      refine rr_getR (pc := 25) B dX2_tenths_25 fl_2_12 or_2_0 ?_
      refine rr_getR (pc := 28) B dX2_tenths_28 fl_2_121 or_0_2 ?_
      refine rr_iload1 (pc := 31) B dX2_tenths_31 ?_
      refine rr_ialoadE (pc := 32) B dX2_tenths_32 sa_12 (by omega) ((HC.2.1 _ (by omega) (by omega)).2.2.1) (fun b5 => ?_)
      refine rr_aload0 (pc := 33) B dX2_tenths_33 ?_
      refine rr_getR (pc := 34) B dX2_tenths_34 fl_2_28 or_2_2 ?_
      refine rr_getR (pc := 37) B dX2_tenths_37 fl_2_124 or_1_1 ?_
      refine rr_iload2 (pc := 40) B dX2_tenths_40 ?_
      refine rr_ialoadE (pc := 41) B dX2_tenths_41 sa_16 (by omega) (HC.2.2.2.1 _ (by omega) (by omega)) (fun b6 => ?_)
      refine rr_icmp_ne 48 (pc := 42) B dX2_tenths_42 (by decide) (by omega) (fun b7 => ?_) (fun b7 => ?_)
      · refine rr_aload0 (pc := 48) B dX2_tenths_48 ?_
        refine rr_getR (pc := 49) B dX2_tenths_49 fl_2_12 or_2_0 ?_
        refine rr_getR (pc := 52) B dX2_tenths_52 fl_2_74 or_0_4 ?_
        refine rr_iload1 (pc := 55) B dX2_tenths_55 ?_
        refine rr_ialoadE (pc := 56) B dX2_tenths_56 sa_14 (by omega) ((HC.2.1 _ (by omega) (by omega)).2.2.2.2) (fun b8 => ?_)
        refine rc_SI1 (pc := 57) B dX2_tenths_57 st_J_bitCount lk_2_77 (ct_J_bitCount _ _ _  (by omega)) (Nat.le_of_ble_eq_true rfl) (Nat.le_of_ble_eq_true rfl) ?_
        refine rr_istore4 (pc := 60) B dX2_tenths_60 rfl ?_
        refine rr_iload4 (pc := 62) B dX2_tenths_62 ?_
        refine rr_if_ne 71 (pc := 64) B dX2_tenths_64 (by decide) (by omega) (fun b9 => ?_) (fun b9 => absurd b9 (by omega))
        refine rr_iload3 (pc := 71) B dX2_tenths_71 ?_
        refine rr_iconst (z := 3) (pc := 72) B dX2_tenths_72 ?_
        refine rr_aload0 (pc := 73) B dX2_tenths_73 ?_
        refine rr_iload1 (pc := 74) B dX2_tenths_74 ?_
        refine rr_iload2 (pc := 75) B dX2_tenths_75 ?_
        refine rc_VI2 (pc := 76) B dX2_tenths_76 vm_X2_whoComes lk_2_118 so_2 rfl (ct_X2_whoComes _ _ _ _ V (HC) (HO) (by omega) (by omega)) (Nat.le_of_ble_eq_true rfl) (Nat.le_of_ble_eq_true rfl) ?_
        refine rc_SI1 (pc := 79) B dX2_tenths_79 st_J_bitCount lk_2_77 (ct_J_bitCount _ _ _  (by rw [W5]; omega)) (Nat.le_of_ble_eq_true rfl) (Nat.le_of_ble_eq_true rfl) ?_
        refine rr_imul (pc := 82) B dX2_tenths_82 ?_
        refine rr_iload4 (pc := 83) B dX2_tenths_83 ?_
        refine rr_idiv (pc := 85) B dX2_tenths_85 (by rw [W5]; omega) ?_
        refine rr_iadd (pc := 86) B dX2_tenths_86 ?_
        refine rr_ireturn (pc := 87) B Br dX2_tenths_87 ⟨congrArg (fun z => some (aI z)) ?_, ?_⟩
        · unfold lik; rw [if_neg H4, W5]
          have T1 : trn V d h = true ↔ V 53 (V 47 d) = 1 ∧ V 59 h ≠ V 49 d := by unfold trn; exact decide_eq_true_iff
          by_cases q1 : V 54 (V 47 d) = 1
          · by_cases q2 : V 59 h = V 49 d ∨ trn V d h = true
            · rw [if_pos q1, if_pos q2] <;> (rw [T1] at q2; omega)
            · rw [if_pos q1, if_neg q2] <;> (rw [T1] at q2; omega)
          · by_cases q2 : V 59 h = V 49 d ∨ trn V d h = true
            · rw [if_neg q1, if_pos q2] <;> (rw [T1] at q2; omega)
            · rw [if_neg q1, if_neg q2] <;> (rw [T1] at q2; omega)
        · first | rfl | assumption
      · refine rr_iinc3 (z := 3) (pc := 45) B dX2_tenths_45 rfl ?_
        refine rr_aload0 (pc := 48) B dX2_tenths_48 ?_
        refine rr_getR (pc := 49) B dX2_tenths_49 fl_2_12 or_2_0 ?_
        refine rr_getR (pc := 52) B dX2_tenths_52 fl_2_74 or_0_4 ?_
        refine rr_iload1 (pc := 55) B dX2_tenths_55 ?_
        refine rr_ialoadE (pc := 56) B dX2_tenths_56 sa_14 (by omega) ((HC.2.1 _ (by omega) (by omega)).2.2.2.2) (fun b8 => ?_)
        refine rc_SI1 (pc := 57) B dX2_tenths_57 st_J_bitCount lk_2_77 (ct_J_bitCount _ _ _  (by omega)) (Nat.le_of_ble_eq_true rfl) (Nat.le_of_ble_eq_true rfl) ?_
        refine rr_istore4 (pc := 60) B dX2_tenths_60 rfl ?_
        refine rr_iload4 (pc := 62) B dX2_tenths_62 ?_
        refine rr_if_ne 71 (pc := 64) B dX2_tenths_64 (by decide) (by omega) (fun b9 => ?_) (fun b9 => absurd b9 (by omega))
        refine rr_iload3 (pc := 71) B dX2_tenths_71 ?_
        refine rr_iconst (z := 3) (pc := 72) B dX2_tenths_72 ?_
        refine rr_aload0 (pc := 73) B dX2_tenths_73 ?_
        refine rr_iload1 (pc := 74) B dX2_tenths_74 ?_
        refine rr_iload2 (pc := 75) B dX2_tenths_75 ?_
        refine rc_VI2 (pc := 76) B dX2_tenths_76 vm_X2_whoComes lk_2_118 so_2 rfl (ct_X2_whoComes _ _ _ _ V (HC) (HO) (by omega) (by omega)) (Nat.le_of_ble_eq_true rfl) (Nat.le_of_ble_eq_true rfl) ?_
        refine rc_SI1 (pc := 79) B dX2_tenths_79 st_J_bitCount lk_2_77 (ct_J_bitCount _ _ _  (by rw [W5]; omega)) (Nat.le_of_ble_eq_true rfl) (Nat.le_of_ble_eq_true rfl) ?_
        refine rr_imul (pc := 82) B dX2_tenths_82 ?_
        refine rr_iload4 (pc := 83) B dX2_tenths_83 ?_
        refine rr_idiv (pc := 85) B dX2_tenths_85 (by rw [W5]; omega) ?_
        refine rr_iadd (pc := 86) B dX2_tenths_86 ?_
        refine rr_ireturn (pc := 87) B Br dX2_tenths_87 ⟨congrArg (fun z => some (aI z)) ?_, ?_⟩
        · unfold lik; rw [if_neg H4, W5]
          have T1 : trn V d h = true ↔ V 53 (V 47 d) = 1 ∧ V 59 h ≠ V 49 d := by unfold trn; exact decide_eq_true_iff
          by_cases q1 : V 54 (V 47 d) = 1
          · by_cases q2 : V 59 h = V 49 d ∨ trn V d h = true
            · rw [if_pos q1, if_pos q2] <;> (rw [T1] at q2; omega)
            · rw [if_pos q1, if_neg q2] <;> (rw [T1] at q2; omega)
          · by_cases q2 : V 59 h = V 49 d ∨ trn V d h = true
            · rw [if_neg q1, if_pos q2] <;> (rw [T1] at q2; omega)
            · rw [if_neg q1, if_neg q2] <;> (rw [T1] at q2; omega)
        · first | rfl | assumption
  · replace b2 := of_decide_eq_true b2
    refine rr_iconst (z := 4) (pc := 9) B dX2_tenths_9 ?_
    refine rr_goto 14 (pc := 10) B dX2_tenths_10 (by decide) ?_
    refine rr_istore3 (pc := 14) B dX2_tenths_14 rfl ?_
    refine rr_aload0 (pc := 15) B dX2_tenths_15 ?_
    refine rr_getR (pc := 16) B dX2_tenths_16 fl_2_36 or_2_4 ?_
    refine rr_iload1 (pc := 19) B dX2_tenths_19 ?_
    refine rr_zaloadE (pc := 20) B dX2_tenths_20 sa_19 (by omega) ((HO _ (by omega) (by omega)).1) (fun b3 => ?_)
    refine rr_if_neB 45 (pc := 21) B dX2_tenths_21 (by decide) (fun b4 => ?_) (fun b4 => ?_)
    · replace b4 := of_decide_eq_true b4
      refine rr_iinc3 (z := 3) (pc := 45) B dX2_tenths_45 rfl ?_
      refine rr_aload0 (pc := 48) B dX2_tenths_48 ?_
      refine rr_getR (pc := 49) B dX2_tenths_49 fl_2_12 or_2_0 ?_
      refine rr_getR (pc := 52) B dX2_tenths_52 fl_2_74 or_0_4 ?_
      refine rr_iload1 (pc := 55) B dX2_tenths_55 ?_
      refine rr_ialoadE (pc := 56) B dX2_tenths_56 sa_14 (by omega) ((HC.2.1 _ (by omega) (by omega)).2.2.2.2) (fun b5 => ?_)
      refine rc_SI1 (pc := 57) B dX2_tenths_57 st_J_bitCount lk_2_77 (ct_J_bitCount _ _ _  (by omega)) (Nat.le_of_ble_eq_true rfl) (Nat.le_of_ble_eq_true rfl) ?_
      refine rr_istore4 (pc := 60) B dX2_tenths_60 rfl ?_
      refine rr_iload4 (pc := 62) B dX2_tenths_62 ?_
      refine rr_if_ne 71 (pc := 64) B dX2_tenths_64 (by decide) (by omega) (fun b6 => ?_) (fun b6 => absurd b6 (by omega))
      refine rr_iload3 (pc := 71) B dX2_tenths_71 ?_
      refine rr_iconst (z := 3) (pc := 72) B dX2_tenths_72 ?_
      refine rr_aload0 (pc := 73) B dX2_tenths_73 ?_
      refine rr_iload1 (pc := 74) B dX2_tenths_74 ?_
      refine rr_iload2 (pc := 75) B dX2_tenths_75 ?_
      refine rc_VI2 (pc := 76) B dX2_tenths_76 vm_X2_whoComes lk_2_118 so_2 rfl (ct_X2_whoComes _ _ _ _ V (HC) (HO) (by omega) (by omega)) (Nat.le_of_ble_eq_true rfl) (Nat.le_of_ble_eq_true rfl) ?_
      refine rc_SI1 (pc := 79) B dX2_tenths_79 st_J_bitCount lk_2_77 (ct_J_bitCount _ _ _  (by rw [W5]; omega)) (Nat.le_of_ble_eq_true rfl) (Nat.le_of_ble_eq_true rfl) ?_
      refine rr_imul (pc := 82) B dX2_tenths_82 ?_
      refine rr_iload4 (pc := 83) B dX2_tenths_83 ?_
      refine rr_idiv (pc := 85) B dX2_tenths_85 (by rw [W5]; omega) ?_
      refine rr_iadd (pc := 86) B dX2_tenths_86 ?_
      refine rr_ireturn (pc := 87) B Br dX2_tenths_87 ⟨congrArg (fun z => some (aI z)) ?_, ?_⟩
      · unfold lik; rw [if_neg H4, W5]
        have T1 : trn V d h = true ↔ V 53 (V 47 d) = 1 ∧ V 59 h ≠ V 49 d := by unfold trn; exact decide_eq_true_iff
        by_cases q1 : V 54 (V 47 d) = 1
        · by_cases q2 : V 59 h = V 49 d ∨ trn V d h = true
          · rw [if_pos q1, if_pos q2] <;> (rw [T1] at q2; omega)
          · rw [if_pos q1, if_neg q2] <;> (rw [T1] at q2; omega)
        · by_cases q2 : V 59 h = V 49 d ∨ trn V d h = true
          · rw [if_neg q1, if_pos q2] <;> (rw [T1] at q2; omega)
          · rw [if_neg q1, if_neg q2] <;> (rw [T1] at q2; omega)
      · first | rfl | assumption
    · replace b4 := of_decide_eq_false b4
      refine rr_aload0 (pc := 24) B dX2_tenths_24 ?_
      refine rr_getR (pc := 25) B dX2_tenths_25 fl_2_12 or_2_0 ?_
      refine rr_getR (pc := 28) B dX2_tenths_28 fl_2_121 or_0_2 ?_
      refine rr_iload1 (pc := 31) B dX2_tenths_31 ?_
      refine rr_ialoadE (pc := 32) B dX2_tenths_32 sa_12 (by omega) ((HC.2.1 _ (by omega) (by omega)).2.2.1) (fun b5 => ?_)
      refine rr_aload0 (pc := 33) B dX2_tenths_33 ?_
      refine rr_getR (pc := 34) B dX2_tenths_34 fl_2_28 or_2_2 ?_
      refine rr_getR (pc := 37) B dX2_tenths_37 fl_2_124 or_1_1 ?_
      refine rr_iload2 (pc := 40) B dX2_tenths_40 ?_
      refine rr_ialoadE (pc := 41) B dX2_tenths_41 sa_16 (by omega) (HC.2.2.2.1 _ (by omega) (by omega)) (fun b6 => ?_)
      refine rr_icmp_ne 48 (pc := 42) B dX2_tenths_42 (by decide) (by omega) (fun b7 => ?_) (fun b7 => ?_)
      · refine rr_aload0 (pc := 48) B dX2_tenths_48 ?_
        refine rr_getR (pc := 49) B dX2_tenths_49 fl_2_12 or_2_0 ?_
        refine rr_getR (pc := 52) B dX2_tenths_52 fl_2_74 or_0_4 ?_
        refine rr_iload1 (pc := 55) B dX2_tenths_55 ?_
        refine rr_ialoadE (pc := 56) B dX2_tenths_56 sa_14 (by omega) ((HC.2.1 _ (by omega) (by omega)).2.2.2.2) (fun b8 => ?_)
        refine rc_SI1 (pc := 57) B dX2_tenths_57 st_J_bitCount lk_2_77 (ct_J_bitCount _ _ _  (by omega)) (Nat.le_of_ble_eq_true rfl) (Nat.le_of_ble_eq_true rfl) ?_
        refine rr_istore4 (pc := 60) B dX2_tenths_60 rfl ?_
        refine rr_iload4 (pc := 62) B dX2_tenths_62 ?_
        refine rr_if_ne 71 (pc := 64) B dX2_tenths_64 (by decide) (by omega) (fun b9 => ?_) (fun b9 => absurd b9 (by omega))
        refine rr_iload3 (pc := 71) B dX2_tenths_71 ?_
        refine rr_iconst (z := 3) (pc := 72) B dX2_tenths_72 ?_
        refine rr_aload0 (pc := 73) B dX2_tenths_73 ?_
        refine rr_iload1 (pc := 74) B dX2_tenths_74 ?_
        refine rr_iload2 (pc := 75) B dX2_tenths_75 ?_
        refine rc_VI2 (pc := 76) B dX2_tenths_76 vm_X2_whoComes lk_2_118 so_2 rfl (ct_X2_whoComes _ _ _ _ V (HC) (HO) (by omega) (by omega)) (Nat.le_of_ble_eq_true rfl) (Nat.le_of_ble_eq_true rfl) ?_
        refine rc_SI1 (pc := 79) B dX2_tenths_79 st_J_bitCount lk_2_77 (ct_J_bitCount _ _ _  (by rw [W5]; omega)) (Nat.le_of_ble_eq_true rfl) (Nat.le_of_ble_eq_true rfl) ?_
        refine rr_imul (pc := 82) B dX2_tenths_82 ?_
        refine rr_iload4 (pc := 83) B dX2_tenths_83 ?_
        refine rr_idiv (pc := 85) B dX2_tenths_85 (by rw [W5]; omega) ?_
        refine rr_iadd (pc := 86) B dX2_tenths_86 ?_
        refine rr_ireturn (pc := 87) B Br dX2_tenths_87 ⟨congrArg (fun z => some (aI z)) ?_, ?_⟩
        · unfold lik; rw [if_neg H4, W5]
          have T1 : trn V d h = true ↔ V 53 (V 47 d) = 1 ∧ V 59 h ≠ V 49 d := by unfold trn; exact decide_eq_true_iff
          by_cases q1 : V 54 (V 47 d) = 1
          · by_cases q2 : V 59 h = V 49 d ∨ trn V d h = true
            · rw [if_pos q1, if_pos q2] <;> (rw [T1] at q2; omega)
            · rw [if_pos q1, if_neg q2] <;> (rw [T1] at q2; omega)
          · by_cases q2 : V 59 h = V 49 d ∨ trn V d h = true
            · rw [if_neg q1, if_pos q2] <;> (rw [T1] at q2; omega)
            · rw [if_neg q1, if_neg q2] <;> (rw [T1] at q2; omega)
        · first | rfl | assumption
      · refine rr_iinc3 (z := 3) (pc := 45) B dX2_tenths_45 rfl ?_
        refine rr_aload0 (pc := 48) B dX2_tenths_48 ?_
        refine rr_getR (pc := 49) B dX2_tenths_49 fl_2_12 or_2_0 ?_
        refine rr_getR (pc := 52) B dX2_tenths_52 fl_2_74 or_0_4 ?_
        refine rr_iload1 (pc := 55) B dX2_tenths_55 ?_
        refine rr_ialoadE (pc := 56) B dX2_tenths_56 sa_14 (by omega) ((HC.2.1 _ (by omega) (by omega)).2.2.2.2) (fun b8 => ?_)
        refine rc_SI1 (pc := 57) B dX2_tenths_57 st_J_bitCount lk_2_77 (ct_J_bitCount _ _ _  (by omega)) (Nat.le_of_ble_eq_true rfl) (Nat.le_of_ble_eq_true rfl) ?_
        refine rr_istore4 (pc := 60) B dX2_tenths_60 rfl ?_
        refine rr_iload4 (pc := 62) B dX2_tenths_62 ?_
        refine rr_if_ne 71 (pc := 64) B dX2_tenths_64 (by decide) (by omega) (fun b9 => ?_) (fun b9 => absurd b9 (by omega))
        refine rr_iload3 (pc := 71) B dX2_tenths_71 ?_
        refine rr_iconst (z := 3) (pc := 72) B dX2_tenths_72 ?_
        refine rr_aload0 (pc := 73) B dX2_tenths_73 ?_
        refine rr_iload1 (pc := 74) B dX2_tenths_74 ?_
        refine rr_iload2 (pc := 75) B dX2_tenths_75 ?_
        refine rc_VI2 (pc := 76) B dX2_tenths_76 vm_X2_whoComes lk_2_118 so_2 rfl (ct_X2_whoComes _ _ _ _ V (HC) (HO) (by omega) (by omega)) (Nat.le_of_ble_eq_true rfl) (Nat.le_of_ble_eq_true rfl) ?_
        refine rc_SI1 (pc := 79) B dX2_tenths_79 st_J_bitCount lk_2_77 (ct_J_bitCount _ _ _  (by rw [W5]; omega)) (Nat.le_of_ble_eq_true rfl) (Nat.le_of_ble_eq_true rfl) ?_
        refine rr_imul (pc := 82) B dX2_tenths_82 ?_
        refine rr_iload4 (pc := 83) B dX2_tenths_83 ?_
        refine rr_idiv (pc := 85) B dX2_tenths_85 (by rw [W5]; omega) ?_
        refine rr_iadd (pc := 86) B dX2_tenths_86 ?_
        refine rr_ireturn (pc := 87) B Br dX2_tenths_87 ⟨congrArg (fun z => some (aI z)) ?_, ?_⟩
        · unfold lik; rw [if_neg H4, W5]
          have T1 : trn V d h = true ↔ V 53 (V 47 d) = 1 ∧ V 59 h ≠ V 49 d := by unfold trn; exact decide_eq_true_iff
          by_cases q1 : V 54 (V 47 d) = 1
          · by_cases q2 : V 59 h = V 49 d ∨ trn V d h = true
            · rw [if_pos q1, if_pos q2] <;> (rw [T1] at q2; omega)
            · rw [if_pos q1, if_neg q2] <;> (rw [T1] at q2; omega)
          · by_cases q2 : V 59 h = V 49 d ∨ trn V d h = true
            · rw [if_neg q1, if_pos q2] <;> (rw [T1] at q2; omega)
            · rw [if_neg q1, if_neg q2] <;> (rw [T1] at q2; omega)
        · first | rfl | assumption
set_option maxHeartbeats 4000000 in
set_option maxRecDepth 100000 in
theorem ct_X2_areApart (g : ax_G) (M : ax_M) (d e h : Int) (V : ax_M) (H0 : AgC V M) (H1 : RO V M) (H2 : 0 ≤ d ∧ d < V 9 2) (H3 : 0 ≤ e ∧ e < V 9 2) (H4 : 0 ≤ h ∧ h ≤ 7) (H5 : cm V d h ≠ -3) (H6 : cm V e h ≠ -3) : CT g md_X2_areApart 0 [aR 2, aI d, aI e, aI h] M (pI (bi (apr V d e h)) (M)) := by
  refine ct_intro 0 rfl rfl ?_
  intro X hg B Br
  subst hg
  show AW X 0 [some (aR 2), some (aI d), some (aI e), some (aI h)] [] M
  refine rr_rg (fun G0 => ?_)
  have HC := H0
  have N8 : 0 ≤ V 9 2 ∧ V 9 2 ≤ 8 := by have := G0.at ob_0_6.2.1; rw [HC.1] at this; exact this
  have HO := H1
  have A1 := who_cm H5
  have A2 := who_cm H6
  have A3 := cm_r V d h
  have A4 := cm_r V e h
  refine rr_aload0 (pc := 0) B dX2_areApart_0 ?_
  refine rr_getR (pc := 1) B dX2_areApart_1 fl_2_43 or_2_6 ?_
  refine rr_iload1 (pc := 4) B dX2_areApart_4 ?_
  refine rr_bipush (z := 8) (pc := 5) B dX2_areApart_5 (by decide) ?_
  refine rr_imul (pc := 7) B dX2_areApart_7 ?_
  refine rr_iload3 (pc := 8) B dX2_areApart_8 ?_
  refine rr_iadd (pc := 9) B dX2_areApart_9 ?_
  refine rr_ialoadE (pc := 10) B dX2_areApart_10 sa_21 (by omega) (((HO _ (by omega) (by omega)).2.2 _ (by omega) (by omega)).1) (fun b1 => ?_)
  refine rr_aload0 (pc := 11) B dX2_areApart_11 ?_
  refine rr_getR (pc := 12) B dX2_areApart_12 fl_2_43 or_2_6 ?_
  refine rr_iload2 (pc := 15) B dX2_areApart_15 ?_
  refine rr_bipush (z := 8) (pc := 16) B dX2_areApart_16 (by decide) ?_
  refine rr_imul (pc := 18) B dX2_areApart_18 ?_
  refine rr_iload3 (pc := 19) B dX2_areApart_19 ?_
  refine rr_iadd (pc := 20) B dX2_areApart_20 ?_
  refine rr_ialoadE (pc := 21) B dX2_areApart_21 sa_21 (by omega) (((HO _ (by omega) (by omega)).2.2 _ (by omega) (by omega)).1) (fun b2 => ?_)
  refine rr_andN (pc := 22) B dX2_areApart_22 (by omega) (fun b3 => ?_)
  refine rr_if_ne 104 (pc := 23) B dX2_areApart_23 (by decide) (by omega) (fun b4 => ?_) (fun b4 => ?_)
  · refine rr_iconst (z := 1) (pc := 104) B dX2_areApart_104 ?_
    refine rr_goto 109 (pc := 105) B dX2_areApart_105 (by decide) ?_
    refine rr_zreturn (pc := 109) B Br dX2_areApart_109 (by omega) ⟨congrArg (fun z => some (aI z)) ?_, ?_⟩
    · unfold apr apP apR
      rw [A1, A2] at *
      first
        | (rw [decide_eq_true (p := nA (cm V d h) (cm V e h) ≠ 0) (by omega)]; rfl)
        | (rw [decide_eq_true (p := V 54 (V 47 d) = 1 ∧ V 54 (V 47 e) = 1 ∧ V 48 d = V 48 e) (by omega), Bool.true_or, Bool.or_true]; rfl)
        | (rw [decide_eq_true (p := V 53 (V 47 d) = 1 ∧ V 53 (V 47 e) = 1 ∧ V 49 d ≠ V 49 e) (by omega), Bool.or_true, Bool.or_true]; rfl)
        | (rw [decide_eq_false (p := nA (cm V d h) (cm V e h) ≠ 0) (by omega), decide_eq_false (p := V 54 (V 47 d) = 1 ∧ V 54 (V 47 e) = 1 ∧ V 48 d = V 48 e) (by omega), decide_eq_false (p := V 53 (V 47 d) = 1 ∧ V 53 (V 47 e) = 1 ∧ V 49 d ≠ V 49 e) (by omega)]; rfl)
    · first | rfl | assumption
  · refine rr_aload0 (pc := 26) B dX2_areApart_26 ?_
    refine rr_getR (pc := 27) B dX2_areApart_27 fl_2_40 or_2_5 ?_
    refine rr_iload1 (pc := 30) B dX2_areApart_30 ?_
    refine rr_zaloadE (pc := 31) B dX2_areApart_31 sa_20 (by omega) ((HO _ (by omega) (by omega)).2.1) (fun b5 => ?_)
    refine rr_if_eqB 65 (pc := 32) B dX2_areApart_32 (by decide) (fun b6 => ?_) (fun b6 => ?_)
    · replace b6 := of_decide_eq_false b6
      refine rr_aload0 (pc := 65) B dX2_areApart_65 ?_
      refine rr_getR (pc := 66) B dX2_areApart_66 fl_2_36 or_2_4 ?_
      refine rr_iload1 (pc := 69) B dX2_areApart_69 ?_
      refine rr_zaloadE (pc := 70) B dX2_areApart_70 sa_19 (by omega) ((HO _ (by omega) (by omega)).1) (fun b7 => ?_)
      refine rr_if_eqB 108 (pc := 71) B dX2_areApart_71 (by decide) (fun b8 => ?_) (fun b8 => ?_)
      · replace b8 := of_decide_eq_false b8
        refine rr_iconst (z := 0) (pc := 108) B dX2_areApart_108 ?_
        refine rr_zreturn (pc := 109) B Br dX2_areApart_109 (by omega) ⟨congrArg (fun z => some (aI z)) ?_, ?_⟩
        · unfold apr apP apR
          rw [A1, A2] at *
          first
            | (rw [decide_eq_true (p := nA (cm V d h) (cm V e h) ≠ 0) (by omega)]; rfl)
            | (rw [decide_eq_true (p := V 54 (V 47 d) = 1 ∧ V 54 (V 47 e) = 1 ∧ V 48 d = V 48 e) (by omega), Bool.true_or, Bool.or_true]; rfl)
            | (rw [decide_eq_true (p := V 53 (V 47 d) = 1 ∧ V 53 (V 47 e) = 1 ∧ V 49 d ≠ V 49 e) (by omega), Bool.or_true, Bool.or_true]; rfl)
            | (rw [decide_eq_false (p := nA (cm V d h) (cm V e h) ≠ 0) (by omega), decide_eq_false (p := V 54 (V 47 d) = 1 ∧ V 54 (V 47 e) = 1 ∧ V 48 d = V 48 e) (by omega), decide_eq_false (p := V 53 (V 47 d) = 1 ∧ V 53 (V 47 e) = 1 ∧ V 49 d ≠ V 49 e) (by omega)]; rfl)
        · first | rfl | assumption
      · replace b8 := of_decide_eq_true b8
        refine rr_aload0 (pc := 74) B dX2_areApart_74 ?_
        refine rr_getR (pc := 75) B dX2_areApart_75 fl_2_36 or_2_4 ?_
        refine rr_iload2 (pc := 78) B dX2_areApart_78 ?_
        refine rr_zaloadE (pc := 79) B dX2_areApart_79 sa_19 (by omega) ((HO _ (by omega) (by omega)).1) (fun b9 => ?_)
        refine rr_if_eqB 108 (pc := 80) B dX2_areApart_80 (by decide) (fun b10 => ?_) (fun b10 => ?_)
        · replace b10 := of_decide_eq_false b10
          refine rr_iconst (z := 0) (pc := 108) B dX2_areApart_108 ?_
          refine rr_zreturn (pc := 109) B Br dX2_areApart_109 (by omega) ⟨congrArg (fun z => some (aI z)) ?_, ?_⟩
          · unfold apr apP apR
            rw [A1, A2] at *
            first
              | (rw [decide_eq_true (p := nA (cm V d h) (cm V e h) ≠ 0) (by omega)]; rfl)
              | (rw [decide_eq_true (p := V 54 (V 47 d) = 1 ∧ V 54 (V 47 e) = 1 ∧ V 48 d = V 48 e) (by omega), Bool.true_or, Bool.or_true]; rfl)
              | (rw [decide_eq_true (p := V 53 (V 47 d) = 1 ∧ V 53 (V 47 e) = 1 ∧ V 49 d ≠ V 49 e) (by omega), Bool.or_true, Bool.or_true]; rfl)
              | (rw [decide_eq_false (p := nA (cm V d h) (cm V e h) ≠ 0) (by omega), decide_eq_false (p := V 54 (V 47 d) = 1 ∧ V 54 (V 47 e) = 1 ∧ V 48 d = V 48 e) (by omega), decide_eq_false (p := V 53 (V 47 d) = 1 ∧ V 53 (V 47 e) = 1 ∧ V 49 d ≠ V 49 e) (by omega)]; rfl)
          · first | rfl | assumption
        · replace b10 := of_decide_eq_true b10
          refine rr_aload0 (pc := 83) B dX2_areApart_83 ?_
          refine rr_getR (pc := 84) B dX2_areApart_84 fl_2_12 or_2_0 ?_
          refine rr_getR (pc := 87) B dX2_areApart_87 fl_2_121 or_0_2 ?_
          refine rr_iload1 (pc := 90) B dX2_areApart_90 ?_
          refine rr_ialoadE (pc := 91) B dX2_areApart_91 sa_12 (by omega) ((HC.2.1 _ (by omega) (by omega)).2.2.1) (fun b11 => ?_)
          refine rr_aload0 (pc := 92) B dX2_areApart_92 ?_
          refine rr_getR (pc := 93) B dX2_areApart_93 fl_2_12 or_2_0 ?_
          refine rr_getR (pc := 96) B dX2_areApart_96 fl_2_121 or_0_2 ?_
          refine rr_iload2 (pc := 99) B dX2_areApart_99 ?_
          refine rr_ialoadE (pc := 100) B dX2_areApart_100 sa_12 (by omega) ((HC.2.1 _ (by omega) (by omega)).2.2.1) (fun b12 => ?_)
          refine rr_icmp_eq 108 (pc := 101) B dX2_areApart_101 (by decide) (by omega) (fun b13 => ?_) (fun b13 => ?_)
          · refine rr_iconst (z := 0) (pc := 108) B dX2_areApart_108 ?_
            refine rr_zreturn (pc := 109) B Br dX2_areApart_109 (by omega) ⟨congrArg (fun z => some (aI z)) ?_, ?_⟩
            · unfold apr apP apR
              rw [A1, A2] at *
              first
                | (rw [decide_eq_true (p := nA (cm V d h) (cm V e h) ≠ 0) (by omega)]; rfl)
                | (rw [decide_eq_true (p := V 54 (V 47 d) = 1 ∧ V 54 (V 47 e) = 1 ∧ V 48 d = V 48 e) (by omega), Bool.true_or, Bool.or_true]; rfl)
                | (rw [decide_eq_true (p := V 53 (V 47 d) = 1 ∧ V 53 (V 47 e) = 1 ∧ V 49 d ≠ V 49 e) (by omega), Bool.or_true, Bool.or_true]; rfl)
                | (rw [decide_eq_false (p := nA (cm V d h) (cm V e h) ≠ 0) (by omega), decide_eq_false (p := V 54 (V 47 d) = 1 ∧ V 54 (V 47 e) = 1 ∧ V 48 d = V 48 e) (by omega), decide_eq_false (p := V 53 (V 47 d) = 1 ∧ V 53 (V 47 e) = 1 ∧ V 49 d ≠ V 49 e) (by omega)]; rfl)
            · first | rfl | assumption
          · refine rr_iconst (z := 1) (pc := 104) B dX2_areApart_104 ?_
            refine rr_goto 109 (pc := 105) B dX2_areApart_105 (by decide) ?_
            refine rr_zreturn (pc := 109) B Br dX2_areApart_109 (by omega) ⟨congrArg (fun z => some (aI z)) ?_, ?_⟩
            · unfold apr apP apR
              rw [A1, A2] at *
              first
                | (rw [decide_eq_true (p := nA (cm V d h) (cm V e h) ≠ 0) (by omega)]; rfl)
                | (rw [decide_eq_true (p := V 54 (V 47 d) = 1 ∧ V 54 (V 47 e) = 1 ∧ V 48 d = V 48 e) (by omega), Bool.true_or, Bool.or_true]; rfl)
                | (rw [decide_eq_true (p := V 53 (V 47 d) = 1 ∧ V 53 (V 47 e) = 1 ∧ V 49 d ≠ V 49 e) (by omega), Bool.or_true, Bool.or_true]; rfl)
                | (rw [decide_eq_false (p := nA (cm V d h) (cm V e h) ≠ 0) (by omega), decide_eq_false (p := V 54 (V 47 d) = 1 ∧ V 54 (V 47 e) = 1 ∧ V 48 d = V 48 e) (by omega), decide_eq_false (p := V 53 (V 47 d) = 1 ∧ V 53 (V 47 e) = 1 ∧ V 49 d ≠ V 49 e) (by omega)]; rfl)
            · first | rfl | assumption
    · replace b6 := of_decide_eq_true b6
      refine rr_aload0 (pc := 35) B dX2_areApart_35 ?_
      refine rr_getR (pc := 36) B dX2_areApart_36 fl_2_40 or_2_5 ?_
      refine rr_iload2 (pc := 39) B dX2_areApart_39 ?_
      refine rr_zaloadE (pc := 40) B dX2_areApart_40 sa_20 (by omega) ((HO _ (by omega) (by omega)).2.1) (fun b7 => ?_)
      refine rr_if_eqB 65 (pc := 41) B dX2_areApart_41 (by decide) (fun b8 => ?_) (fun b8 => ?_)
      · replace b8 := of_decide_eq_false b8
        refine rr_aload0 (pc := 65) B dX2_areApart_65 ?_
        refine rr_getR (pc := 66) B dX2_areApart_66 fl_2_36 or_2_4 ?_
        refine rr_iload1 (pc := 69) B dX2_areApart_69 ?_
        refine rr_zaloadE (pc := 70) B dX2_areApart_70 sa_19 (by omega) ((HO _ (by omega) (by omega)).1) (fun b9 => ?_)
        refine rr_if_eqB 108 (pc := 71) B dX2_areApart_71 (by decide) (fun b10 => ?_) (fun b10 => ?_)
        · replace b10 := of_decide_eq_false b10
          refine rr_iconst (z := 0) (pc := 108) B dX2_areApart_108 ?_
          refine rr_zreturn (pc := 109) B Br dX2_areApart_109 (by omega) ⟨congrArg (fun z => some (aI z)) ?_, ?_⟩
          · unfold apr apP apR
            rw [A1, A2] at *
            first
              | (rw [decide_eq_true (p := nA (cm V d h) (cm V e h) ≠ 0) (by omega)]; rfl)
              | (rw [decide_eq_true (p := V 54 (V 47 d) = 1 ∧ V 54 (V 47 e) = 1 ∧ V 48 d = V 48 e) (by omega), Bool.true_or, Bool.or_true]; rfl)
              | (rw [decide_eq_true (p := V 53 (V 47 d) = 1 ∧ V 53 (V 47 e) = 1 ∧ V 49 d ≠ V 49 e) (by omega), Bool.or_true, Bool.or_true]; rfl)
              | (rw [decide_eq_false (p := nA (cm V d h) (cm V e h) ≠ 0) (by omega), decide_eq_false (p := V 54 (V 47 d) = 1 ∧ V 54 (V 47 e) = 1 ∧ V 48 d = V 48 e) (by omega), decide_eq_false (p := V 53 (V 47 d) = 1 ∧ V 53 (V 47 e) = 1 ∧ V 49 d ≠ V 49 e) (by omega)]; rfl)
          · first | rfl | assumption
        · replace b10 := of_decide_eq_true b10
          refine rr_aload0 (pc := 74) B dX2_areApart_74 ?_
          refine rr_getR (pc := 75) B dX2_areApart_75 fl_2_36 or_2_4 ?_
          refine rr_iload2 (pc := 78) B dX2_areApart_78 ?_
          refine rr_zaloadE (pc := 79) B dX2_areApart_79 sa_19 (by omega) ((HO _ (by omega) (by omega)).1) (fun b11 => ?_)
          refine rr_if_eqB 108 (pc := 80) B dX2_areApart_80 (by decide) (fun b12 => ?_) (fun b12 => ?_)
          · replace b12 := of_decide_eq_false b12
            refine rr_iconst (z := 0) (pc := 108) B dX2_areApart_108 ?_
            refine rr_zreturn (pc := 109) B Br dX2_areApart_109 (by omega) ⟨congrArg (fun z => some (aI z)) ?_, ?_⟩
            · unfold apr apP apR
              rw [A1, A2] at *
              first
                | (rw [decide_eq_true (p := nA (cm V d h) (cm V e h) ≠ 0) (by omega)]; rfl)
                | (rw [decide_eq_true (p := V 54 (V 47 d) = 1 ∧ V 54 (V 47 e) = 1 ∧ V 48 d = V 48 e) (by omega), Bool.true_or, Bool.or_true]; rfl)
                | (rw [decide_eq_true (p := V 53 (V 47 d) = 1 ∧ V 53 (V 47 e) = 1 ∧ V 49 d ≠ V 49 e) (by omega), Bool.or_true, Bool.or_true]; rfl)
                | (rw [decide_eq_false (p := nA (cm V d h) (cm V e h) ≠ 0) (by omega), decide_eq_false (p := V 54 (V 47 d) = 1 ∧ V 54 (V 47 e) = 1 ∧ V 48 d = V 48 e) (by omega), decide_eq_false (p := V 53 (V 47 d) = 1 ∧ V 53 (V 47 e) = 1 ∧ V 49 d ≠ V 49 e) (by omega)]; rfl)
            · first | rfl | assumption
          · replace b12 := of_decide_eq_true b12
            refine rr_aload0 (pc := 83) B dX2_areApart_83 ?_
            refine rr_getR (pc := 84) B dX2_areApart_84 fl_2_12 or_2_0 ?_
            refine rr_getR (pc := 87) B dX2_areApart_87 fl_2_121 or_0_2 ?_
            refine rr_iload1 (pc := 90) B dX2_areApart_90 ?_
            refine rr_ialoadE (pc := 91) B dX2_areApart_91 sa_12 (by omega) ((HC.2.1 _ (by omega) (by omega)).2.2.1) (fun b13 => ?_)
            refine rr_aload0 (pc := 92) B dX2_areApart_92 ?_
            refine rr_getR (pc := 93) B dX2_areApart_93 fl_2_12 or_2_0 ?_
            refine rr_getR (pc := 96) B dX2_areApart_96 fl_2_121 or_0_2 ?_
            refine rr_iload2 (pc := 99) B dX2_areApart_99 ?_
            refine rr_ialoadE (pc := 100) B dX2_areApart_100 sa_12 (by omega) ((HC.2.1 _ (by omega) (by omega)).2.2.1) (fun b14 => ?_)
            refine rr_icmp_eq 108 (pc := 101) B dX2_areApart_101 (by decide) (by omega) (fun b15 => ?_) (fun b15 => ?_)
            · refine rr_iconst (z := 0) (pc := 108) B dX2_areApart_108 ?_
              refine rr_zreturn (pc := 109) B Br dX2_areApart_109 (by omega) ⟨congrArg (fun z => some (aI z)) ?_, ?_⟩
              · unfold apr apP apR
                rw [A1, A2] at *
                first
                  | (rw [decide_eq_true (p := nA (cm V d h) (cm V e h) ≠ 0) (by omega)]; rfl)
                  | (rw [decide_eq_true (p := V 54 (V 47 d) = 1 ∧ V 54 (V 47 e) = 1 ∧ V 48 d = V 48 e) (by omega), Bool.true_or, Bool.or_true]; rfl)
                  | (rw [decide_eq_true (p := V 53 (V 47 d) = 1 ∧ V 53 (V 47 e) = 1 ∧ V 49 d ≠ V 49 e) (by omega), Bool.or_true, Bool.or_true]; rfl)
                  | (rw [decide_eq_false (p := nA (cm V d h) (cm V e h) ≠ 0) (by omega), decide_eq_false (p := V 54 (V 47 d) = 1 ∧ V 54 (V 47 e) = 1 ∧ V 48 d = V 48 e) (by omega), decide_eq_false (p := V 53 (V 47 d) = 1 ∧ V 53 (V 47 e) = 1 ∧ V 49 d ≠ V 49 e) (by omega)]; rfl)
              · first | rfl | assumption
            · refine rr_iconst (z := 1) (pc := 104) B dX2_areApart_104 ?_
              refine rr_goto 109 (pc := 105) B dX2_areApart_105 (by decide) ?_
              refine rr_zreturn (pc := 109) B Br dX2_areApart_109 (by omega) ⟨congrArg (fun z => some (aI z)) ?_, ?_⟩
              · unfold apr apP apR
                rw [A1, A2] at *
                first
                  | (rw [decide_eq_true (p := nA (cm V d h) (cm V e h) ≠ 0) (by omega)]; rfl)
                  | (rw [decide_eq_true (p := V 54 (V 47 d) = 1 ∧ V 54 (V 47 e) = 1 ∧ V 48 d = V 48 e) (by omega), Bool.true_or, Bool.or_true]; rfl)
                  | (rw [decide_eq_true (p := V 53 (V 47 d) = 1 ∧ V 53 (V 47 e) = 1 ∧ V 49 d ≠ V 49 e) (by omega), Bool.or_true, Bool.or_true]; rfl)
                  | (rw [decide_eq_false (p := nA (cm V d h) (cm V e h) ≠ 0) (by omega), decide_eq_false (p := V 54 (V 47 d) = 1 ∧ V 54 (V 47 e) = 1 ∧ V 48 d = V 48 e) (by omega), decide_eq_false (p := V 53 (V 47 d) = 1 ∧ V 53 (V 47 e) = 1 ∧ V 49 d ≠ V 49 e) (by omega)]; rfl)
              · first | rfl | assumption
      · replace b8 := of_decide_eq_true b8
        refine rr_aload0 (pc := 44) B dX2_areApart_44 ?_
        refine rr_getR (pc := 45) B dX2_areApart_45 fl_2_12 or_2_0 ?_
        refine rr_getR (pc := 48) B dX2_areApart_48 fl_2_127 or_0_1 ?_
        refine rr_iload1 (pc := 51) B dX2_areApart_51 ?_
        refine rr_ialoadE (pc := 52) B dX2_areApart_52 sa_11 (by omega) ((HC.2.1 _ (by omega) (by omega)).2.1) (fun b9 => ?_)
        refine rr_aload0 (pc := 53) B dX2_areApart_53 ?_
        refine rr_getR (pc := 54) B dX2_areApart_54 fl_2_12 or_2_0 ?_
        refine rr_getR (pc := 57) B dX2_areApart_57 fl_2_127 or_0_1 ?_
        refine rr_iload2 (pc := 60) B dX2_areApart_60 ?_
        refine rr_ialoadE (pc := 61) B dX2_areApart_61 sa_11 (by omega) ((HC.2.1 _ (by omega) (by omega)).2.1) (fun b10 => ?_)
        refine rr_icmp_eq 104 (pc := 62) B dX2_areApart_62 (by decide) (by omega) (fun b11 => ?_) (fun b11 => ?_)
        · refine rr_iconst (z := 1) (pc := 104) B dX2_areApart_104 ?_
          refine rr_goto 109 (pc := 105) B dX2_areApart_105 (by decide) ?_
          refine rr_zreturn (pc := 109) B Br dX2_areApart_109 (by omega) ⟨congrArg (fun z => some (aI z)) ?_, ?_⟩
          · unfold apr apP apR
            rw [A1, A2] at *
            first
              | (rw [decide_eq_true (p := nA (cm V d h) (cm V e h) ≠ 0) (by omega)]; rfl)
              | (rw [decide_eq_true (p := V 54 (V 47 d) = 1 ∧ V 54 (V 47 e) = 1 ∧ V 48 d = V 48 e) (by omega), Bool.true_or, Bool.or_true]; rfl)
              | (rw [decide_eq_true (p := V 53 (V 47 d) = 1 ∧ V 53 (V 47 e) = 1 ∧ V 49 d ≠ V 49 e) (by omega), Bool.or_true, Bool.or_true]; rfl)
              | (rw [decide_eq_false (p := nA (cm V d h) (cm V e h) ≠ 0) (by omega), decide_eq_false (p := V 54 (V 47 d) = 1 ∧ V 54 (V 47 e) = 1 ∧ V 48 d = V 48 e) (by omega), decide_eq_false (p := V 53 (V 47 d) = 1 ∧ V 53 (V 47 e) = 1 ∧ V 49 d ≠ V 49 e) (by omega)]; rfl)
          · first | rfl | assumption
        · refine rr_aload0 (pc := 65) B dX2_areApart_65 ?_
          refine rr_getR (pc := 66) B dX2_areApart_66 fl_2_36 or_2_4 ?_
          refine rr_iload1 (pc := 69) B dX2_areApart_69 ?_
          refine rr_zaloadE (pc := 70) B dX2_areApart_70 sa_19 (by omega) ((HO _ (by omega) (by omega)).1) (fun b12 => ?_)
          refine rr_if_eqB 108 (pc := 71) B dX2_areApart_71 (by decide) (fun b13 => ?_) (fun b13 => ?_)
          · replace b13 := of_decide_eq_false b13
            refine rr_iconst (z := 0) (pc := 108) B dX2_areApart_108 ?_
            refine rr_zreturn (pc := 109) B Br dX2_areApart_109 (by omega) ⟨congrArg (fun z => some (aI z)) ?_, ?_⟩
            · unfold apr apP apR
              rw [A1, A2] at *
              first
                | (rw [decide_eq_true (p := nA (cm V d h) (cm V e h) ≠ 0) (by omega)]; rfl)
                | (rw [decide_eq_true (p := V 54 (V 47 d) = 1 ∧ V 54 (V 47 e) = 1 ∧ V 48 d = V 48 e) (by omega), Bool.true_or, Bool.or_true]; rfl)
                | (rw [decide_eq_true (p := V 53 (V 47 d) = 1 ∧ V 53 (V 47 e) = 1 ∧ V 49 d ≠ V 49 e) (by omega), Bool.or_true, Bool.or_true]; rfl)
                | (rw [decide_eq_false (p := nA (cm V d h) (cm V e h) ≠ 0) (by omega), decide_eq_false (p := V 54 (V 47 d) = 1 ∧ V 54 (V 47 e) = 1 ∧ V 48 d = V 48 e) (by omega), decide_eq_false (p := V 53 (V 47 d) = 1 ∧ V 53 (V 47 e) = 1 ∧ V 49 d ≠ V 49 e) (by omega)]; rfl)
            · first | rfl | assumption
          · replace b13 := of_decide_eq_true b13
            refine rr_aload0 (pc := 74) B dX2_areApart_74 ?_
            refine rr_getR (pc := 75) B dX2_areApart_75 fl_2_36 or_2_4 ?_
            refine rr_iload2 (pc := 78) B dX2_areApart_78 ?_
            refine rr_zaloadE (pc := 79) B dX2_areApart_79 sa_19 (by omega) ((HO _ (by omega) (by omega)).1) (fun b14 => ?_)
            refine rr_if_eqB 108 (pc := 80) B dX2_areApart_80 (by decide) (fun b15 => ?_) (fun b15 => ?_)
            · replace b15 := of_decide_eq_false b15
              refine rr_iconst (z := 0) (pc := 108) B dX2_areApart_108 ?_
              refine rr_zreturn (pc := 109) B Br dX2_areApart_109 (by omega) ⟨congrArg (fun z => some (aI z)) ?_, ?_⟩
              · unfold apr apP apR
                rw [A1, A2] at *
                first
                  | (rw [decide_eq_true (p := nA (cm V d h) (cm V e h) ≠ 0) (by omega)]; rfl)
                  | (rw [decide_eq_true (p := V 54 (V 47 d) = 1 ∧ V 54 (V 47 e) = 1 ∧ V 48 d = V 48 e) (by omega), Bool.true_or, Bool.or_true]; rfl)
                  | (rw [decide_eq_true (p := V 53 (V 47 d) = 1 ∧ V 53 (V 47 e) = 1 ∧ V 49 d ≠ V 49 e) (by omega), Bool.or_true, Bool.or_true]; rfl)
                  | (rw [decide_eq_false (p := nA (cm V d h) (cm V e h) ≠ 0) (by omega), decide_eq_false (p := V 54 (V 47 d) = 1 ∧ V 54 (V 47 e) = 1 ∧ V 48 d = V 48 e) (by omega), decide_eq_false (p := V 53 (V 47 d) = 1 ∧ V 53 (V 47 e) = 1 ∧ V 49 d ≠ V 49 e) (by omega)]; rfl)
              · first | rfl | assumption
            · replace b15 := of_decide_eq_true b15
              refine rr_aload0 (pc := 83) B dX2_areApart_83 ?_
              refine rr_getR (pc := 84) B dX2_areApart_84 fl_2_12 or_2_0 ?_
              refine rr_getR (pc := 87) B dX2_areApart_87 fl_2_121 or_0_2 ?_
              refine rr_iload1 (pc := 90) B dX2_areApart_90 ?_
              refine rr_ialoadE (pc := 91) B dX2_areApart_91 sa_12 (by omega) ((HC.2.1 _ (by omega) (by omega)).2.2.1) (fun b16 => ?_)
              refine rr_aload0 (pc := 92) B dX2_areApart_92 ?_
              refine rr_getR (pc := 93) B dX2_areApart_93 fl_2_12 or_2_0 ?_
              refine rr_getR (pc := 96) B dX2_areApart_96 fl_2_121 or_0_2 ?_
              refine rr_iload2 (pc := 99) B dX2_areApart_99 ?_
              refine rr_ialoadE (pc := 100) B dX2_areApart_100 sa_12 (by omega) ((HC.2.1 _ (by omega) (by omega)).2.2.1) (fun b17 => ?_)
              refine rr_icmp_eq 108 (pc := 101) B dX2_areApart_101 (by decide) (by omega) (fun b18 => ?_) (fun b18 => ?_)
              · refine rr_iconst (z := 0) (pc := 108) B dX2_areApart_108 ?_
                refine rr_zreturn (pc := 109) B Br dX2_areApart_109 (by omega) ⟨congrArg (fun z => some (aI z)) ?_, ?_⟩
                · unfold apr apP apR
                  rw [A1, A2] at *
                  first
                    | (rw [decide_eq_true (p := nA (cm V d h) (cm V e h) ≠ 0) (by omega)]; rfl)
                    | (rw [decide_eq_true (p := V 54 (V 47 d) = 1 ∧ V 54 (V 47 e) = 1 ∧ V 48 d = V 48 e) (by omega), Bool.true_or, Bool.or_true]; rfl)
                    | (rw [decide_eq_true (p := V 53 (V 47 d) = 1 ∧ V 53 (V 47 e) = 1 ∧ V 49 d ≠ V 49 e) (by omega), Bool.or_true, Bool.or_true]; rfl)
                    | (rw [decide_eq_false (p := nA (cm V d h) (cm V e h) ≠ 0) (by omega), decide_eq_false (p := V 54 (V 47 d) = 1 ∧ V 54 (V 47 e) = 1 ∧ V 48 d = V 48 e) (by omega), decide_eq_false (p := V 53 (V 47 d) = 1 ∧ V 53 (V 47 e) = 1 ∧ V 49 d ≠ V 49 e) (by omega)]; rfl)
                · first | rfl | assumption
              · refine rr_iconst (z := 1) (pc := 104) B dX2_areApart_104 ?_
                refine rr_goto 109 (pc := 105) B dX2_areApart_105 (by decide) ?_
                refine rr_zreturn (pc := 109) B Br dX2_areApart_109 (by omega) ⟨congrArg (fun z => some (aI z)) ?_, ?_⟩
                · unfold apr apP apR
                  rw [A1, A2] at *
                  first
                    | (rw [decide_eq_true (p := nA (cm V d h) (cm V e h) ≠ 0) (by omega)]; rfl)
                    | (rw [decide_eq_true (p := V 54 (V 47 d) = 1 ∧ V 54 (V 47 e) = 1 ∧ V 48 d = V 48 e) (by omega), Bool.true_or, Bool.or_true]; rfl)
                    | (rw [decide_eq_true (p := V 53 (V 47 d) = 1 ∧ V 53 (V 47 e) = 1 ∧ V 49 d ≠ V 49 e) (by omega), Bool.or_true, Bool.or_true]; rfl)
                    | (rw [decide_eq_false (p := nA (cm V d h) (cm V e h) ≠ 0) (by omega), decide_eq_false (p := V 54 (V 47 d) = 1 ∧ V 54 (V 47 e) = 1 ∧ V 48 d = V 48 e) (by omega), decide_eq_false (p := V 53 (V 47 d) = 1 ∧ V 53 (V 47 e) = 1 ∧ V 49 d ≠ V 49 e) (by omega)]; rfl)
                · first | rfl | assumption
set_option maxHeartbeats 4000000 in
set_option maxRecDepth 100000 in
theorem ct_X2_fitsBehind (g : ax_G) (M : ax_M) (d : Int) (V : ax_M) (H0 : AgC V M) (H1 : RO V M) (H2 : 0 ≤ d ∧ d < V 9 2) (H3 : ∀ e, 0 ≤ e → e < d → M 44 e ≠ -1 → (0 ≤ M 44 e ∧ M 44 e ≤ 7) ∧ cm V e (M 44 e) ≠ -3) : CT g md_X2_fitsBehind 1 [aR 2, aR 44, aI d] M (pI (bi (ftB V (M 44) d)) (M)) := by
  refine ct_intro 2 rfl rfl ?_
  intro X hg B Br
  subst hg
  show AW X 0 [some (aR 2), some (aR 44), some (aI d), none, none] [] M
  refine rr_rg (fun G0 => ?_)
  have HC := H0
  have N8 : 0 ≤ V 9 2 ∧ V 9 2 ≤ 8 := by have := G0.at ob_0_6.2.1; rw [HC.1] at this; exact this
  have HO := H1
  have L : ∀ nn : Nat, (∀ (e : Int), (0 ≤ e ∧ e ≤ d) → ((0 ≤ M 44 d ∧ M 44 d ≤ 7) ∧ cm V d (M 44 d) ≠ -3) → (∀ j, 0 ≤ j → j < e → (!decide (M 44 j = M 44 d) || !apr V d j (M 44 d)) = true) → ((8 - e).toNat) < nn → AW X 27 [some (aR 2), some (aR 44), some (aI d), some (aI (M 44 d)), some (aI e)] [] M) ∧ True := by
    intro nn
    induction nn with
    | zero => exact ⟨by intros; omega, trivial⟩
    | succ nn ih =>
      refine ⟨?_, trivial⟩
      · intro e K0 K1 K2 hm
        refine rr_iload4 (pc := 27) B dX2_fitsBehind_27 ?_
        refine rr_iload2 (pc := 29) B dX2_fitsBehind_29 ?_
        refine rr_icmp_ge 60 (pc := 30) B dX2_fitsBehind_30 (by decide) (by omega) (fun b1 => ?_) (fun b1 => ?_)
        · refine rr_iconst (z := 1) (pc := 60) B dX2_fitsBehind_60 ?_
          refine rr_zreturn (pc := 61) B Br dX2_fitsBehind_61 (by omega) ⟨congrArg (fun z => some (aI z)) ?_, ?_⟩
          · unfold ftB; rw [decide_eq_true K1.1, decide_eq_true K1.2, allB_t (by omega) (fun j a b => K2 j a (by omega))]; rfl
          · first | rfl | assumption
        · refine rr_aload1 (pc := 33) B dX2_fitsBehind_33 ?_
          refine rr_iload4 (pc := 34) B dX2_fitsBehind_34 ?_
          refine rr_iaload (pc := 36) B dX2_fitsBehind_36 sa_44 (by omega) (fun b2 => ?_)
          refine rr_iload3 (pc := 37) B dX2_fitsBehind_37 ?_
          refine rr_icmp_ne 54 (pc := 38) B dX2_fitsBehind_38 (by decide) (by omega) (fun b3 => ?_) (fun b3 => ?_)
          · refine rr_iinc4 (z := 1) (pc := 54) B dX2_fitsBehind_54 rfl ?_
            refine rr_goto 27 (pc := 57) B dX2_fitsBehind_57 (by decide) ?_
            refine ih.1 _ ?_ ?_ ?_ ?_
            · omega
            · first | exact K1 | exact ⟨by assumption, by assumption⟩
            · intro j a b
              rcases Int.lt_or_eq_of_le (show j ≤ e by omega) with q | q
              · exact K2 j a q
              · rw [q]; first | (rw [decide_eq_false (by assumption)]; rfl) | (rw [show apr V d e (M 44 d) = false by assumption, Bool.not_false, Bool.or_true])
            · omega
          · refine rr_aload0 (pc := 41) B dX2_fitsBehind_41 ?_
            refine rr_iload2 (pc := 42) B dX2_fitsBehind_42 ?_
            refine rr_iload4 (pc := 43) B dX2_fitsBehind_43 ?_
            refine rr_iload3 (pc := 45) B dX2_fitsBehind_45 ?_
            refine rc_VI3 (pc := 46) B dX2_fitsBehind_46 vm_X2_areApart lk_2_137 so_2 rfl (ct_X2_areApart _ _ _ _ _ V (HC) (HO) (by omega) (by omega) (by omega) (by exact K1.2) (by have z := H3 e (by omega) (by omega) (by omega); rw [show M 44 e = M 44 d by assumption] at z; exact z.2)) (Nat.le_of_ble_eq_true rfl) (Nat.le_of_ble_eq_true rfl) ?_
            refine rr_if_eqB 54 (pc := 49) B dX2_fitsBehind_49 (by decide) (fun b4 => ?_) (fun b4 => ?_)
            · refine rr_iinc4 (z := 1) (pc := 54) B dX2_fitsBehind_54 rfl ?_
              refine rr_goto 27 (pc := 57) B dX2_fitsBehind_57 (by decide) ?_
              refine ih.1 _ ?_ ?_ ?_ ?_
              · omega
              · first | exact K1 | exact ⟨by assumption, by assumption⟩
              · intro j a b
                rcases Int.lt_or_eq_of_le (show j ≤ e by omega) with q | q
                · exact K2 j a q
                · rw [q]; first | (rw [decide_eq_false (by assumption)]; rfl) | (rw [show apr V d e (M 44 d) = false by assumption, Bool.not_false, Bool.or_true])
              · omega
            · refine rr_iconst (z := 0) (pc := 52) B dX2_fitsBehind_52 ?_
              refine rr_zreturn (pc := 53) B Br dX2_fitsBehind_53 (by omega) ⟨congrArg (fun z => some (aI z)) ?_, ?_⟩
              · unfold ftB; rw [allB_f e (by omega) (by omega) (by rw [decide_eq_true (by assumption), show apr V d e (M 44 d) = true by assumption]; rfl), Bool.and_false, Bool.and_false]; rfl
              · first | rfl | assumption
  refine rr_aload1 (pc := 0) B dX2_fitsBehind_0 ?_
  refine rr_iload2 (pc := 1) B dX2_fitsBehind_1 ?_
  refine rr_iaload (pc := 2) B dX2_fitsBehind_2 sa_44 (by omega) (fun b1 => ?_)
  refine rr_istore3 (pc := 3) B dX2_fitsBehind_3 rfl ?_
  refine rr_iload3 (pc := 4) B dX2_fitsBehind_4 ?_
  refine rr_bipush (z := 7) (pc := 5) B dX2_fitsBehind_5 (by decide) ?_
  refine rc_NI2 (pc := 7) B dX2_fitsBehind_7 st_X8_within lk_2_134 (ct_X8_within _ _ _ _  (by omega)) (Nat.le_of_ble_eq_true rfl) (Nat.le_of_ble_eq_true rfl) ?_
  refine rr_if_eqB 22 (pc := 10) B dX2_fitsBehind_10 (by decide) (fun b2 => ?_) (fun b2 => ?_)
  · replace b2 := of_decide_eq_false b2
    refine rr_iconst (z := 0) (pc := 22) B dX2_fitsBehind_22 ?_
    refine rr_zreturn (pc := 23) B Br dX2_fitsBehind_23 (by omega) ⟨congrArg (fun z => some (aI z)) ?_, ?_⟩
    · unfold ftB; first | (rw [decide_eq_false (p := 0 ≤ M 44 d ∧ M 44 d ≤ 7) (by assumption)]; rfl) | (rw [decide_eq_false (p := cm V d (M 44 d) ≠ -3) (by assumption), Bool.false_and, Bool.and_false]; rfl)
    · first | rfl | assumption
  · replace b2 := of_decide_eq_true b2
    refine rr_aload0 (pc := 13) B dX2_fitsBehind_13 ?_
    refine rr_iload2 (pc := 14) B dX2_fitsBehind_14 ?_
    refine rr_iload3 (pc := 15) B dX2_fitsBehind_15 ?_
    refine rc_VI2 (pc := 16) B dX2_fitsBehind_16 vm_X2_isOpen lk_2_112 so_2 rfl (ct_X2_isOpen _ _ _ _ V (HC) (HO) (by omega) (by assumption)) (Nat.le_of_ble_eq_true rfl) (Nat.le_of_ble_eq_true rfl) ?_
    refine rr_if_neB 24 (pc := 19) B dX2_fitsBehind_19 (by decide) (fun b3 => ?_) (fun b3 => ?_)
    · replace b3 := of_decide_eq_true b3
      refine rr_iconst (z := 0) (pc := 24) B dX2_fitsBehind_24 ?_
      refine rr_istore4 (pc := 25) B dX2_fitsBehind_25 rfl ?_
      refine (L _).1 _ ?_ ?_ ?_ (Nat.lt_succ_self _)
      · omega
      · first | exact K1 | exact ⟨by assumption, by assumption⟩
      · intro j a b; omega
    · replace b3 := of_decide_eq_false b3
      refine rr_iconst (z := 0) (pc := 22) B dX2_fitsBehind_22 ?_
      refine rr_zreturn (pc := 23) B Br dX2_fitsBehind_23 (by omega) ⟨congrArg (fun z => some (aI z)) ?_, ?_⟩
      · unfold ftB; first | (rw [decide_eq_false (p := 0 ≤ M 44 d ∧ M 44 d ≤ 7) (by assumption)]; rfl) | (rw [decide_eq_false (p := cm V d (M 44 d) ≠ -3) (by assumption), Bool.false_and, Bool.and_false]; rfl)
      · first | rfl | assumption
set_option maxHeartbeats 4000000 in
set_option maxRecDepth 100000 in
theorem ct_X2_isPlan (g : ax_G) (M : ax_M) (V : ax_M) (H0 : AgC V M) (H1 : RO V M) : CT g md_X2_isPlan 2 [aR 2, aR 44] M (pI (bi (okQ V (M 44))) (M)) := by
  refine ct_intro 1 rfl rfl ?_
  intro X hg B Br
  subst hg
  show AW X 0 [some (aR 2), some (aR 44), none] [] M
  refine rr_rg (fun G0 => ?_)
  have HC := H0
  have N8 : 0 ≤ V 9 2 ∧ V 9 2 ≤ 8 := by have := G0.at ob_0_6.2.1; rw [HC.1] at this; exact this
  have HO := H1
  have L : ∀ nn : Nat, (∀ (d : Int), (0 ≤ d ∧ d ≤ V 9 2) → (∀ j, 0 ≤ j → j < d → (decide (M 44 j = -1) || ftB V (M 44) j) = true) → ((8 - d).toNat) < nn → AW X 2 [some (aR 2), some (aR 44), some (aI d)] [] M) ∧ True := by
    intro nn
    induction nn with
    | zero => exact ⟨by intros; omega, trivial⟩
    | succ nn ih =>
      refine ⟨?_, trivial⟩
      · intro d K0 K1 hm
        refine rr_iload2 (pc := 2) B dX2_isPlan_2 ?_
        refine rr_aload0 (pc := 3) B dX2_isPlan_3 ?_
        refine rr_getR (pc := 4) B dX2_isPlan_4 fl_2_12 or_2_0 ?_
        refine rr_getIE (pc := 7) B dX2_isPlan_7 fl_2_55 ob_0_6 (HC.1) (fun b1 => ?_)
        refine rr_icmp_ge 37 (pc := 10) B dX2_isPlan_10 (by decide) (by omega) (fun b2 => ?_) (fun b2 => ?_)
        · refine rr_iconst (z := 1) (pc := 37) B dX2_isPlan_37 ?_
          refine rr_zreturn (pc := 38) B Br dX2_isPlan_38 (by omega) ⟨congrArg (fun z => some (aI z)) ?_, ?_⟩
          · unfold okQ; rw [allB_t (by omega) (fun j a b => K1 j a (by omega))]; rfl
          · first | rfl | assumption
        · refine rr_aload1 (pc := 13) B dX2_isPlan_13 ?_
          refine rr_iload2 (pc := 14) B dX2_isPlan_14 ?_
          refine rr_iaload (pc := 15) B dX2_isPlan_15 sa_44 (by omega) (fun b3 => ?_)
          refine rr_iconst (z := (-1)) (pc := 16) B dX2_isPlan_16 ?_
          refine rr_icmp_eq 31 (pc := 17) B dX2_isPlan_17 (by decide) (by omega) (fun b4 => ?_) (fun b4 => ?_)
          · refine rr_iinc2 (z := 1) (pc := 31) B dX2_isPlan_31 rfl ?_
            refine rr_goto 2 (pc := 34) B dX2_isPlan_34 (by decide) ?_
            refine ih.1 _ ?_ ?_ ?_
            · omega
            · intro j a b
              rcases Int.lt_or_eq_of_le (show j ≤ d by omega) with q | q
              · exact K1 j a q
              · rw [q]; first | (rw [decide_eq_true (by assumption)]; rfl) | (rw [show ftB V (M 44) d = true by assumption, Bool.or_true])
            · omega
          · refine rr_aload0 (pc := 20) B dX2_isPlan_20 ?_
            refine rr_aload1 (pc := 21) B dX2_isPlan_21 ?_
            refine rr_iload2 (pc := 22) B dX2_isPlan_22 ?_
            refine rc_VI2 (pc := 23) B dX2_isPlan_23 vm_X2_fitsBehind lk_2_130 so_2 rfl (ct_X2_fitsBehind _ _ _ V (HC) (HO) (by omega) (by intro e a b q; have z := K1 e a b; rw [decide_eq_false q, Bool.false_or] at z; exact ft_open z)) (Nat.le_of_ble_eq_true rfl) (Nat.le_of_ble_eq_true rfl) ?_
            refine rr_if_neB 31 (pc := 26) B dX2_isPlan_26 (by decide) (fun b5 => ?_) (fun b5 => ?_)
            · refine rr_iinc2 (z := 1) (pc := 31) B dX2_isPlan_31 rfl ?_
              refine rr_goto 2 (pc := 34) B dX2_isPlan_34 (by decide) ?_
              refine ih.1 _ ?_ ?_ ?_
              · omega
              · intro j a b
                rcases Int.lt_or_eq_of_le (show j ≤ d by omega) with q | q
                · exact K1 j a q
                · rw [q]; first | (rw [decide_eq_true (by assumption)]; rfl) | (rw [show ftB V (M 44) d = true by assumption, Bool.or_true])
              · omega
            · refine rr_iconst (z := 0) (pc := 29) B dX2_isPlan_29 ?_
              refine rr_zreturn (pc := 30) B Br dX2_isPlan_30 (by omega) ⟨congrArg (fun z => some (aI z)) ?_, ?_⟩
              · unfold okQ; rw [allB_f d (by omega) (by omega) (by rw [decide_eq_false (by assumption), show ftB V (M 44) d = false by assumption]; rfl)]; rfl
              · first | rfl | assumption
  refine rr_iconst (z := 0) (pc := 0) B dX2_isPlan_0 ?_
  refine rr_istore2 (pc := 1) B dX2_isPlan_1 rfl ?_
  refine (L _).1 _ ?_ ?_ (Nat.lt_succ_self _)
  · omega
  · intro j a b; omega
set_option maxHeartbeats 4000000 in
set_option maxRecDepth 100000 in
theorem ct_X2_worthOfPlan (g : ax_G) (M : ax_M) (V : ax_M) (H0 : AgC V M) (H1 : RO V M) : CT g md_X2_worthOfPlan 0 [aR 2, aR 44] M (pI (wR V (M 44)) (M)) := by
  refine ct_intro 2 rfl rfl ?_
  intro X hg B Br
  subst hg
  show AW X 0 [some (aR 2), some (aR 44), none, none] [] M
  refine rr_rg (fun G0 => ?_)
  have HC := H0
  have N8 : 0 ≤ V 9 2 ∧ V 9 2 ≤ 8 := by have := G0.at ob_0_6.2.1; rw [HC.1] at this; exact this
  have HO := H1
  have L : ∀ nn : Nat, (∀ (s1 d : Int), (0 ≤ d ∧ d ≤ V 9 2) → (s1 = itI (fun d s => s + if M 44 d = -1 then 0 else V 50 d) 0 d) → ((8 - d).toNat) < nn → AW X 4 [some (aR 2), some (aR 44), some (aI s1), some (aI d)] [] M) ∧ True := by
    intro nn
    induction nn with
    | zero => exact ⟨by intros; omega, trivial⟩
    | succ nn ih =>
      refine ⟨?_, trivial⟩
      · intro s1 d K0 K1 hm
        refine rr_iload3 (pc := 4) B dX2_worthOfPlan_4 ?_
        refine rr_aload0 (pc := 5) B dX2_worthOfPlan_5 ?_
        refine rr_getR (pc := 6) B dX2_worthOfPlan_6 fl_2_12 or_2_0 ?_
        refine rr_getIE (pc := 9) B dX2_worthOfPlan_9 fl_2_55 ob_0_6 (HC.1) (fun b1 => ?_)
        refine rr_icmp_ge 40 (pc := 12) B dX2_worthOfPlan_12 (by decide) (by omega) (fun b2 => ?_) (fun b2 => ?_)
        · refine rr_iload2 (pc := 40) B dX2_worthOfPlan_40 ?_
          refine rr_ireturn (pc := 41) B Br dX2_worthOfPlan_41 ⟨congrArg (fun z => some (aI z)) ?_, ?_⟩
          · rw [K1, show d = V 9 2 by omega]; rfl
          · first | rfl | assumption
        · refine rr_aload1 (pc := 15) B dX2_worthOfPlan_15 ?_
          refine rr_iload3 (pc := 16) B dX2_worthOfPlan_16 ?_
          refine rr_iaload (pc := 17) B dX2_worthOfPlan_17 sa_44 (by omega) (fun b3 => ?_)
          refine rr_iconst (z := (-1)) (pc := 18) B dX2_worthOfPlan_18 ?_
          refine rr_icmp_eq 34 (pc := 19) B dX2_worthOfPlan_19 (by decide) (by omega) (fun b4 => ?_) (fun b4 => ?_)
          · refine rr_iinc3 (z := 1) (pc := 34) B dX2_worthOfPlan_34 rfl ?_
            refine rr_goto 4 (pc := 37) B dX2_worthOfPlan_37 (by decide) ?_
            refine ih.1 _ _ ?_ ?_ ?_
            · omega
            · rw [itI_s _ _ (by omega), ← K1]; first | (rw [if_neg (by omega)]; done) | (rw [if_pos (by omega)]; omega)
            · omega
          · refine rr_iload2 (pc := 22) B dX2_worthOfPlan_22 ?_
            refine rr_aload0 (pc := 23) B dX2_worthOfPlan_23 ?_
            refine rr_getR (pc := 24) B dX2_worthOfPlan_24 fl_2_12 or_2_0 ?_
            refine rr_getR (pc := 27) B dX2_worthOfPlan_27 fl_2_141 or_0_3 ?_
            refine rr_iload3 (pc := 30) B dX2_worthOfPlan_30 ?_
            refine rr_ialoadE (pc := 31) B dX2_worthOfPlan_31 sa_13 (by omega) ((HC.2.1 _ (by omega) (by omega)).2.2.2.1) (fun b5 => ?_)
            refine rr_iadd (pc := 32) B dX2_worthOfPlan_32 ?_
            refine rr_istore2 (pc := 33) B dX2_worthOfPlan_33 rfl ?_
            refine rr_iinc3 (z := 1) (pc := 34) B dX2_worthOfPlan_34 rfl ?_
            refine rr_goto 4 (pc := 37) B dX2_worthOfPlan_37 (by decide) ?_
            refine ih.1 _ _ ?_ ?_ ?_
            · omega
            · rw [itI_s _ _ (by omega), ← K1]; first | (rw [if_neg (by omega)]; done) | (rw [if_pos (by omega)]; omega)
            · omega
  refine rr_iconst (z := 0) (pc := 0) B dX2_worthOfPlan_0 ?_
  refine rr_istore2 (pc := 1) B dX2_worthOfPlan_1 rfl ?_
  refine rr_iconst (z := 0) (pc := 2) B dX2_worthOfPlan_2 ?_
  refine rr_istore3 (pc := 3) B dX2_worthOfPlan_3 rfl ?_
  refine (L _).1 _ _ ?_ ?_ (Nat.lt_succ_self _)
  · omega
  · rfl
set_option maxHeartbeats 4000000 in
set_option maxRecDepth 100000 in
theorem ct_X2_costOfPlan (g : ax_G) (M : ax_M) (V : ax_M) (H0 : AgC V M) (H1 : RO V M) (H2 : okQ V (M 44) = true) : CT g md_X2_costOfPlan 1 [aR 2, aR 44] M (pI (coQ V (M 44)) (M)) := by
  refine ct_intro 4 rfl rfl ?_
  intro X hg B Br
  subst hg
  show AW X 0 [some (aR 2), some (aR 44), none, none, none, none] [] M
  refine rr_rg (fun G0 => ?_)
  have HC := H0
  have N8 : 0 ≤ V 9 2 ∧ V 9 2 ≤ 8 := by have := G0.at ob_0_6.2.1; rw [HC.1] at this; exact this
  have HO := H1
  have OK := (allB_iff N8.1).mp H2
  have R99 : 0 ≤ V 60 0 ∧ V 60 0 ≤ 999 := by have := G0.at (sa_17.2.2 0); rw [HC.2.2.2.2.1 0 (by decide) (by decide)] at this; exact this
  have L : ∀ nn : Nat, (∀ (s1 t d : Int) (w5 : Option ax_V), (0 ≤ d ∧ d ≤ V 9 2) → (s1 = cqS V (M 44) d) → (t = cqT V (M 44) d) → (0 ≤ t ∧ t < 256) → ((8 - d).toNat) < nn → AW X 7 [some (aR 2), some (aR 44), some (aI s1), some (aI t), some (aI d), w5] [] M) ∧ True := by
    intro nn
    induction nn with
    | zero => exact ⟨by intros; omega, trivial⟩
    | succ nn ih =>
      refine ⟨?_, trivial⟩
      · intro s1 t d w5 K0 K1 K2 K3 hm
        refine rr_iload4 (pc := 7) B dX2_costOfPlan_7 ?_
        refine rr_aload0 (pc := 9) B dX2_costOfPlan_9 ?_
        refine rr_getR (pc := 10) B dX2_costOfPlan_10 fl_2_12 or_2_0 ?_
        refine rr_getIE (pc := 13) B dX2_costOfPlan_13 fl_2_55 ob_0_6 (HC.1) (fun b1 => ?_)
        refine rr_icmp_ge 74 (pc := 16) B dX2_costOfPlan_16 (by decide) (by omega) (fun b2 => ?_) (fun b2 => ?_)
        · refine rr_iload2 (pc := 74) B dX2_costOfPlan_74 ?_
          refine rr_iload3 (pc := 75) B dX2_costOfPlan_75 ?_
          refine rc_SI1 (pc := 76) B dX2_costOfPlan_76 st_J_bitCount lk_2_77 (ct_J_bitCount _ _ _  (by omega)) (Nat.le_of_ble_eq_true rfl) (Nat.le_of_ble_eq_true rfl) ?_
          refine rr_aload0 (pc := 79) B dX2_costOfPlan_79 ?_
          refine rr_getR (pc := 80) B dX2_costOfPlan_80 fl_2_28 or_2_2 ?_
          refine rr_getR (pc := 83) B dX2_costOfPlan_83 fl_2_106 or_1_2 ?_
          refine rr_iconst (z := 0) (pc := 86) B dX2_costOfPlan_86 ?_
          refine rr_ialoadE (pc := 87) B dX2_costOfPlan_87 sa_17 (by omega) (HC.2.2.2.2.1 _ (by omega) (by omega)) (fun b3 => ?_)
          refine rr_imul (pc := 88) B dX2_costOfPlan_88 ?_
          refine rr_iadd (pc := 89) B dX2_costOfPlan_89 ?_
          refine rr_ireturn (pc := 90) B Br dX2_costOfPlan_90 ⟨congrArg (fun z => some (aI z)) ?_, ?_⟩
          · unfold coQ; rw [K1, K2, show d = V 9 2 by omega]
          · first | rfl | assumption
        · refine rr_aload1 (pc := 19) B dX2_costOfPlan_19 ?_
          refine rr_iload4 (pc := 20) B dX2_costOfPlan_20 ?_
          refine rr_iaload (pc := 22) B dX2_costOfPlan_22 sa_44 (by omega) (fun b3 => ?_)
          refine rr_istore5 (pc := 23) B dX2_costOfPlan_23 rfl ?_
          refine rr_iload5 (pc := 25) B dX2_costOfPlan_25 ?_
          refine rr_bipush (z := 7) (pc := 27) B dX2_costOfPlan_27 (by decide) ?_
          refine rc_NI2 (pc := 29) B dX2_costOfPlan_29 st_X8_within lk_2_134 (ct_X8_within _ _ _ _  (by omega)) (Nat.le_of_ble_eq_true rfl) (Nat.le_of_ble_eq_true rfl) ?_
          refine rr_if_eqB 68 (pc := 32) B dX2_costOfPlan_32 (by decide) (fun b4 => ?_) (fun b4 => ?_)
          · replace b4 := of_decide_eq_false b4
            refine rr_iinc4 (z := 1) (pc := 68) B dX2_costOfPlan_68 rfl ?_
            refine rr_goto 7 (pc := 71) B dX2_costOfPlan_71 (by decide) ?_
            refine ih.1 _ _ _ _ ?_ ?_ ?_ ?_ ?_
            · omega
            · rw [show cqS V (M 44) (d + 1) = cqS V (M 44) d + (if 0 ≤ M 44 d ∧ M 44 d ≤ 7 then prc V (cm V d (M 44 d)) else 0) from itI_s _ _ (by omega), ← K1]
              first
                | (rw [if_neg (by assumption)]; omega)
                | (rw [if_pos (by assumption)]
                   have z := OK d (by omega) (by omega)
                   rw [decide_eq_false (by omega), Bool.false_or] at z
                   rw [((HO d (by omega) (by omega)).2.2 (M 44 d) (by omega) (by omega)).2 (ft_open z).2])
            · rw [show cqT V (M 44) (d + 1) = nO (cqT V (M 44) d) (if (0 ≤ M 44 d ∧ M 44 d ≤ 7) ∧ trn V d (M 44 d) = true then p2 (M 44 d) else 0) from itI_s _ _ (by omega), ← K2]
              first
                | (rw [if_pos ⟨by assumption, by assumption⟩]; done)
                | (rw [if_neg (fun z => absurd z.1 (by assumption)), nO_0 K3.1]; done)
                | (rw [if_neg (fun z => by have y := z.2; simp_all)]; done)
            · omega
            · omega
          · replace b4 := of_decide_eq_true b4
            refine rr_iload2 (pc := 35) B dX2_costOfPlan_35 ?_
            refine rr_aload0 (pc := 36) B dX2_costOfPlan_36 ?_
            refine rr_iload4 (pc := 37) B dX2_costOfPlan_37 ?_
            refine rr_iload5 (pc := 39) B dX2_costOfPlan_39 ?_
            refine rc_VI2 (pc := 41) B dX2_costOfPlan_41 vm_X2_priceOfPeople lk_2_109 so_2 rfl (ct_X2_priceOfPeople _ _ _ _  (by omega) (by omega)) (Nat.le_of_ble_eq_true rfl) (Nat.le_of_ble_eq_true rfl) ?_
            refine rr_iadd (pc := 44) B dX2_costOfPlan_44 ?_
            refine rr_istore2 (pc := 45) B dX2_costOfPlan_45 rfl ?_
            refine rr_iload3 (pc := 46) B dX2_costOfPlan_46 ?_
            refine rr_aload0 (pc := 47) B dX2_costOfPlan_47 ?_
            refine rr_iload4 (pc := 48) B dX2_costOfPlan_48 ?_
            refine rr_iload5 (pc := 50) B dX2_costOfPlan_50 ?_
            refine rc_VI2 (pc := 52) B dX2_costOfPlan_52 vm_X2_isTurned lk_2_103 so_2 rfl (ct_X2_isTurned _ _ _ _ V (HC) (by omega) (by omega) ((HO _ (by omega) (by omega)).1)) (Nat.le_of_ble_eq_true rfl) (Nat.le_of_ble_eq_true rfl) ?_
            refine rr_if_eqB 65 (pc := 55) B dX2_costOfPlan_55 (by decide) (fun b5 => ?_) (fun b5 => ?_)
            · refine rr_iconst (z := 0) (pc := 65) B dX2_costOfPlan_65 ?_
              refine rr_orN 8 (pc := 66) B dX2_costOfPlan_66 (by decide) (by first | omega | (have q2 := p2_le (a := M 44 d) (b := 7) (by omega); have q3 : p2 7 = 128 := rfl; omega)) (fun b6 => ?_)
              refine rr_istore3 (pc := 67) B dX2_costOfPlan_67 rfl ?_
              refine rr_iinc4 (z := 1) (pc := 68) B dX2_costOfPlan_68 rfl ?_
              refine rr_goto 7 (pc := 71) B dX2_costOfPlan_71 (by decide) ?_
              refine ih.1 _ _ _ _ ?_ ?_ ?_ ?_ ?_
              · omega
              · rw [show cqS V (M 44) (d + 1) = cqS V (M 44) d + (if 0 ≤ M 44 d ∧ M 44 d ≤ 7 then prc V (cm V d (M 44 d)) else 0) from itI_s _ _ (by omega), ← K1]
                first
                  | (rw [if_neg (by assumption)]; omega)
                  | (rw [if_pos (by assumption)]
                     have z := OK d (by omega) (by omega)
                     rw [decide_eq_false (by omega), Bool.false_or] at z
                     rw [((HO d (by omega) (by omega)).2.2 (M 44 d) (by omega) (by omega)).2 (ft_open z).2])
              · rw [show cqT V (M 44) (d + 1) = nO (cqT V (M 44) d) (if (0 ≤ M 44 d ∧ M 44 d ≤ 7) ∧ trn V d (M 44 d) = true then p2 (M 44 d) else 0) from itI_s _ _ (by omega), ← K2]
                first
                  | (rw [if_pos ⟨by assumption, by assumption⟩]; done)
                  | (rw [if_neg (fun z => absurd z.1 (by assumption)), nO_0 K3.1]; done)
                  | (rw [if_neg (fun z => by have y := z.2; simp_all)]; done)
              · omega
              · omega
            · refine rr_iconst (z := 1) (pc := 58) B dX2_costOfPlan_58 ?_
              refine rr_iload5 (pc := 59) B dX2_costOfPlan_59 ?_
              refine rr_shl1 (pc := 61) B dX2_costOfPlan_61 (by omega) (fun b6 => ?_)
              refine rr_goto 66 (pc := 62) B dX2_costOfPlan_62 (by decide) ?_
              refine rr_orN 8 (pc := 66) B dX2_costOfPlan_66 (by decide) (by first | omega | (have q2 := p2_le (a := M 44 d) (b := 7) (by omega); have q3 : p2 7 = 128 := rfl; omega)) (fun b7 => ?_)
              refine rr_istore3 (pc := 67) B dX2_costOfPlan_67 rfl ?_
              refine rr_iinc4 (z := 1) (pc := 68) B dX2_costOfPlan_68 rfl ?_
              refine rr_goto 7 (pc := 71) B dX2_costOfPlan_71 (by decide) ?_
              refine ih.1 _ _ _ _ ?_ ?_ ?_ ?_ ?_
              · omega
              · rw [show cqS V (M 44) (d + 1) = cqS V (M 44) d + (if 0 ≤ M 44 d ∧ M 44 d ≤ 7 then prc V (cm V d (M 44 d)) else 0) from itI_s _ _ (by omega), ← K1]
                first
                  | (rw [if_neg (by assumption)]; omega)
                  | (rw [if_pos (by assumption)]
                     have z := OK d (by omega) (by omega)
                     rw [decide_eq_false (by omega), Bool.false_or] at z
                     rw [((HO d (by omega) (by omega)).2.2 (M 44 d) (by omega) (by omega)).2 (ft_open z).2])
              · rw [show cqT V (M 44) (d + 1) = nO (cqT V (M 44) d) (if (0 ≤ M 44 d ∧ M 44 d ≤ 7) ∧ trn V d (M 44 d) = true then p2 (M 44 d) else 0) from itI_s _ _ (by omega), ← K2]
                first
                  | (rw [if_pos ⟨by assumption, by assumption⟩]; done)
                  | (rw [if_neg (fun z => absurd z.1 (by assumption)), nO_0 K3.1]; done)
                  | (rw [if_neg (fun z => by have y := z.2; simp_all)]; done)
              · omega
              · omega
  refine rr_iconst (z := 0) (pc := 0) B dX2_costOfPlan_0 ?_
  refine rr_istore2 (pc := 1) B dX2_costOfPlan_1 rfl ?_
  refine rr_iconst (z := 0) (pc := 2) B dX2_costOfPlan_2 ?_
  refine rr_istore3 (pc := 3) B dX2_costOfPlan_3 rfl ?_
  refine rr_iconst (z := 0) (pc := 4) B dX2_costOfPlan_4 ?_
  refine rr_istore4 (pc := 5) B dX2_costOfPlan_5 rfl ?_
  refine (L _).1 _ _ _ _ ?_ ?_ ?_ ?_ (Nat.lt_succ_self _)
  · omega
  · rfl
  · rfl
  · omega
