theorem shB_r (M : ax_M) (h : 0 ≤ M 7 0 ∧ M 7 0 ≤ 10) : 0 ≤ (shB M (p2 (M 7 0) - 1)).1 ∧ (shB M (p2 (M 7 0) - 1)).1 ≤ 1023 := by
  unfold shB
  have p1 := p2_pos (M 7 0)
  have p := p2_le (a := M 7 0) (b := 10) h.2
  have e : p2 10 = 1024 := rfl
  refine itI_inv (fun i (x : Int × Int) => 0 ≤ x.1 ∧ x.1 ≤ 1023) (by omega) (by simp only []; omega) (fun i x h0 h1 q => ?_)
  unfold shS
  split
  · refine ⟨?_, ?_⟩ <;> simp only [] <;> omega
  · exact q
set_option maxHeartbeats 4000000 in
set_option maxRecDepth 100000 in
theorem ct_X1_trait (g : ax_G) (M : ax_M) (p what : Int) (H0 : 0 ≤ p ∧ p ≤ 7) (H1 : 0 ≤ what ∧ what ≤ 3) : CT g md_X1_trait 0 [aR 1, aI p, aI what] M (pI (M 15 (p * 4 + what)) (M)) := by
  refine ct_intro 0 rfl rfl ?_
  intro X hg B Br
  subst hg
  show AW X 0 [some (aR 1), some (aI p), some (aI what)] [] M
  refine rr_rg (fun G0 => ?_)
  refine rr_aload0 (pc := 0) B dX1_trait_0 ?_
  refine rr_getR (pc := 1) B dX1_trait_1 fl_1_11 or_1_0 ?_
  refine rr_iload1 (pc := 4) B dX1_trait_4 ?_
  refine rr_iconst (z := 4) (pc := 5) B dX1_trait_5 ?_
  refine rr_imul (pc := 6) B dX1_trait_6 ?_
  refine rr_iload2 (pc := 7) B dX1_trait_7 ?_
  refine rr_iadd (pc := 8) B dX1_trait_8 ?_
  refine rr_iaload (pc := 9) B dX1_trait_9 sa_15 (by omega) (fun b1 => ?_)
  refine rr_ireturn (pc := 10) B Br dX1_trait_10 ⟨congrArg (fun z => some (aI z)) ?_, ?_⟩
  · first | rfl | omega | (rw [decide_eq_true (by omega)]; rfl) | (rw [decide_eq_false (by omega)]; rfl) | (simp [*]; done)
  · first | rfl | assumption
set_option maxHeartbeats 4000000 in
set_option maxRecDepth 100000 in
theorem ct_X1_changeTrait (g : ax_G) (M : ax_M) (p what v : Int) (H0 : 0 ≤ p ∧ p ≤ 7) (H1 : 0 ≤ what ∧ what ≤ 3) (H2 : 0 ≤ v ∧ v ≤ 99) : CT g md_X1_changeTrait 0 [aR 1, aI p, aI what, aI v] M (pI (M 15 (p * 4 + what)) (ms M 15 (p * 4 + what) v)) := by
  refine ct_intro 1 rfl rfl ?_
  intro X hg B Br
  subst hg
  show AW X 0 [some (aR 1), some (aI p), some (aI what), some (aI v), none] [] M
  refine rr_rg (fun G0 => ?_)
  refine rr_aload0 (pc := 0) B dX1_changeTrait_0 ?_
  refine rr_getR (pc := 1) B dX1_changeTrait_1 fl_1_11 or_1_0 ?_
  refine rr_iload1 (pc := 4) B dX1_changeTrait_4 ?_
  refine rr_iconst (z := 4) (pc := 5) B dX1_changeTrait_5 ?_
  refine rr_imul (pc := 6) B dX1_changeTrait_6 ?_
  refine rr_iload2 (pc := 7) B dX1_changeTrait_7 ?_
  refine rr_iadd (pc := 8) B dX1_changeTrait_8 ?_
  refine rr_iaload (pc := 9) B dX1_changeTrait_9 sa_15 (by omega) (fun b1 => ?_)
  refine rr_istore4 (pc := 10) B dX1_changeTrait_10 rfl ?_
  refine rr_aload0 (pc := 12) B dX1_changeTrait_12 ?_
  refine rr_getR (pc := 13) B dX1_changeTrait_13 fl_1_11 or_1_0 ?_
  refine rr_iload1 (pc := 16) B dX1_changeTrait_16 ?_
  refine rr_iconst (z := 4) (pc := 17) B dX1_changeTrait_17 ?_
  refine rr_imul (pc := 18) B dX1_changeTrait_18 ?_
  refine rr_iload2 (pc := 19) B dX1_changeTrait_19 ?_
  refine rr_iadd (pc := 20) B dX1_changeTrait_20 ?_
  refine rr_iload3 (pc := 21) B dX1_changeTrait_21 ?_
  refine rr_iastore (pc := 22) B dX1_changeTrait_22 sa_15 (by omega) (by omega) ?_
  refine rr_iload4 (pc := 23) B dX1_changeTrait_23 ?_
  refine rr_ireturn (pc := 25) B Br dX1_changeTrait_25 ⟨congrArg (fun z => some (aI z)) ?_, ?_⟩
  · first | rfl | omega | (rw [decide_eq_true (by omega)]; rfl) | (rw [decide_eq_false (by omega)]; rfl) | (simp [*]; done)
  · first | rfl | assumption
set_option maxHeartbeats 4000000 in
set_option maxRecDepth 100000 in
theorem ct_X1_changeSky (g : ax_G) (M : ax_M) (h v : Int) (H0 : 0 ≤ h ∧ h ≤ 7) (H1 : 0 ≤ v ∧ v ≤ 1) : CT g md_X1_changeSky 0 [aR 1, aI h, aI v] M (pI (M 16 h) (ms M 16 h v)) := by
  refine ct_intro 1 rfl rfl ?_
  intro X hg B Br
  subst hg
  show AW X 0 [some (aR 1), some (aI h), some (aI v), none] [] M
  refine rr_rg (fun G0 => ?_)
  refine rr_aload0 (pc := 0) B dX1_changeSky_0 ?_
  refine rr_getR (pc := 1) B dX1_changeSky_1 fl_1_15 or_1_1 ?_
  refine rr_iload1 (pc := 4) B dX1_changeSky_4 ?_
  refine rr_iaload (pc := 5) B dX1_changeSky_5 sa_16 (by omega) (fun b1 => ?_)
  refine rr_istore3 (pc := 6) B dX1_changeSky_6 rfl ?_
  refine rr_aload0 (pc := 7) B dX1_changeSky_7 ?_
  refine rr_getR (pc := 8) B dX1_changeSky_8 fl_1_15 or_1_1 ?_
  refine rr_iload1 (pc := 11) B dX1_changeSky_11 ?_
  refine rr_iload2 (pc := 12) B dX1_changeSky_12 ?_
  refine rr_iastore (pc := 13) B dX1_changeSky_13 sa_16 (by omega) (by omega) ?_
  refine rr_iload3 (pc := 14) B dX1_changeSky_14 ?_
  refine rr_ireturn (pc := 15) B Br dX1_changeSky_15 ⟨congrArg (fun z => some (aI z)) ?_, ?_⟩
  · first | rfl | omega | (rw [decide_eq_true (by omega)]; rfl) | (rw [decide_eq_false (by omega)]; rfl) | (simp [*]; done)
  · first | rfl | assumption
set_option maxHeartbeats 4000000 in
set_option maxRecDepth 100000 in
theorem ct_X1_changeSetting (g : ax_G) (M : ax_M) (what v : Int) (H0 : 0 ≤ what ∧ what ≤ 3) (H1 : 0 ≤ v ∧ v ≤ 999) : CT g md_X1_changeSetting 0 [aR 1, aI what, aI v] M (pI (M 17 what) (ms M 17 what v)) := by
  refine ct_intro 1 rfl rfl ?_
  intro X hg B Br
  subst hg
  show AW X 0 [some (aR 1), some (aI what), some (aI v), none] [] M
  refine rr_rg (fun G0 => ?_)
  refine rr_aload0 (pc := 0) B dX1_changeSetting_0 ?_
  refine rr_getR (pc := 1) B dX1_changeSetting_1 fl_1_18 or_1_2 ?_
  refine rr_iload1 (pc := 4) B dX1_changeSetting_4 ?_
  refine rr_iaload (pc := 5) B dX1_changeSetting_5 sa_17 (by omega) (fun b1 => ?_)
  refine rr_istore3 (pc := 6) B dX1_changeSetting_6 rfl ?_
  refine rr_aload0 (pc := 7) B dX1_changeSetting_7 ?_
  refine rr_getR (pc := 8) B dX1_changeSetting_8 fl_1_18 or_1_2 ?_
  refine rr_iload1 (pc := 11) B dX1_changeSetting_11 ?_
  refine rr_iload2 (pc := 12) B dX1_changeSetting_12 ?_
  refine rr_iastore (pc := 13) B dX1_changeSetting_13 sa_17 (by omega) (by omega) ?_
  refine rr_iload3 (pc := 14) B dX1_changeSetting_14 ?_
  refine rr_ireturn (pc := 15) B Br dX1_changeSetting_15 ⟨congrArg (fun z => some (aI z)) ?_, ?_⟩
  · first | rfl | omega | (rw [decide_eq_true (by omega)]; rfl) | (rw [decide_eq_false (by omega)]; rfl) | (simp [*]; done)
  · first | rfl | assumption
set_option maxHeartbeats 4000000 in
set_option maxRecDepth 100000 in
theorem ct_X1_isHere (g : ax_G) (M : ax_M) (p h : Int) (H0 : 0 ≤ p ∧ p ≤ 7) (H1 : 0 ≤ h ∧ h ≤ 7) : CT g md_X1_isHere 0 [aR 1, aI p, aI h] M (pI (bi (decide (M 15 (p * 4 + 0) ≤ h ∧ h < M 15 (p * 4 + 1)))) (M)) := by
  refine ct_intro 0 rfl rfl ?_
  intro X hg B Br
  subst hg
  show AW X 0 [some (aR 1), some (aI p), some (aI h)] [] M
  refine rr_rg (fun G0 => ?_)
  refine rr_iload2 (pc := 0) B dX1_isHere_0 ?_
  refine rr_aload0 (pc := 1) B dX1_isHere_1 ?_
  refine rr_getR (pc := 2) B dX1_isHere_2 fl_1_11 or_1_0 ?_
  refine rr_iload1 (pc := 5) B dX1_isHere_5 ?_
  refine rr_iconst (z := 4) (pc := 6) B dX1_isHere_6 ?_
  refine rr_imul (pc := 7) B dX1_isHere_7 ?_
  refine rr_iconst (z := 0) (pc := 8) B dX1_isHere_8 ?_
  refine rr_iadd (pc := 9) B dX1_isHere_9 ?_
  refine rr_iaload (pc := 10) B dX1_isHere_10 sa_15 (by omega) (fun b1 => ?_)
  refine rr_icmp_lt 32 (pc := 11) B dX1_isHere_11 (by decide) (by omega) (fun b2 => ?_) (fun b2 => ?_)
  · refine rr_iconst (z := 0) (pc := 32) B dX1_isHere_32 ?_
    refine rr_zreturn (pc := 33) B Br dX1_isHere_33 (by omega) ⟨congrArg (fun z => some (aI z)) ?_, ?_⟩
    · first | rfl | omega | (rw [decide_eq_true (by omega)]; rfl) | (rw [decide_eq_false (by omega)]; rfl) | (simp [*]; done)
    · first | rfl | assumption
  · refine rr_iload2 (pc := 14) B dX1_isHere_14 ?_
    refine rr_aload0 (pc := 15) B dX1_isHere_15 ?_
    refine rr_getR (pc := 16) B dX1_isHere_16 fl_1_11 or_1_0 ?_
    refine rr_iload1 (pc := 19) B dX1_isHere_19 ?_
    refine rr_iconst (z := 4) (pc := 20) B dX1_isHere_20 ?_
    refine rr_imul (pc := 21) B dX1_isHere_21 ?_
    refine rr_iconst (z := 1) (pc := 22) B dX1_isHere_22 ?_
    refine rr_iadd (pc := 23) B dX1_isHere_23 ?_
    refine rr_iaload (pc := 24) B dX1_isHere_24 sa_15 (by omega) (fun b3 => ?_)
    refine rr_icmp_ge 32 (pc := 25) B dX1_isHere_25 (by decide) (by omega) (fun b4 => ?_) (fun b4 => ?_)
    · refine rr_iconst (z := 0) (pc := 32) B dX1_isHere_32 ?_
      refine rr_zreturn (pc := 33) B Br dX1_isHere_33 (by omega) ⟨congrArg (fun z => some (aI z)) ?_, ?_⟩
      · first | rfl | omega | (rw [decide_eq_true (by omega)]; rfl) | (rw [decide_eq_false (by omega)]; rfl) | (simp [*]; done)
      · first | rfl | assumption
    · refine rr_iconst (z := 1) (pc := 28) B dX1_isHere_28 ?_
      refine rr_goto 33 (pc := 29) B dX1_isHere_29 (by decide) ?_
      refine rr_zreturn (pc := 33) B Br dX1_isHere_33 (by omega) ⟨congrArg (fun z => some (aI z)) ?_, ?_⟩
      · first | rfl | omega | (rw [decide_eq_true (by omega)]; rfl) | (rw [decide_eq_false (by omega)]; rfl) | (simp [*]; done)
      · first | rfl | assumption
set_option maxHeartbeats 4000000 in
set_option maxRecDepth 100000 in
theorem ct_X1_rainyHours (g : ax_G) (M : ax_M) : CT g md_X1_rainyHours 0 [aR 1] M (pI (itI (fun h s => s + M 16 h) 0 8) (M)) := by
  refine ct_intro 2 rfl rfl ?_
  intro X hg B Br
  subst hg
  show AW X 0 [some (aR 1), none, none] [] M
  refine rr_rg (fun G0 => ?_)
  have L : ∀ nn : Nat, (∀ (r h : Int), (0 ≤ h ∧ h ≤ 8) → (r = itI (fun h s => s + M 16 h) 0 h) → ((8 - h).toNat) < nn → AW X 4 [some (aR 1), some (aI r), some (aI h)] [] M) ∧ True := by
    intro nn
    induction nn with
    | zero => exact ⟨by intros; omega, trivial⟩
    | succ nn ih =>
      refine ⟨?_, trivial⟩
      · intro r h K0 K1 hm
        refine rr_iload2 (pc := 4) B dX1_rainyHours_4 ?_
        refine rr_bipush (z := 8) (pc := 5) B dX1_rainyHours_5 (by decide) ?_
        refine rr_icmp_ge 25 (pc := 7) B dX1_rainyHours_7 (by decide) (by omega) (fun b1 => ?_) (fun b1 => ?_)
        · refine rr_iload1 (pc := 25) B dX1_rainyHours_25 ?_
          refine rr_ireturn (pc := 26) B Br dX1_rainyHours_26 ⟨congrArg (fun z => some (aI z)) ?_, ?_⟩
          · rw [K1, show h = 8 by omega]
          · first | rfl | assumption
        · refine rr_iload1 (pc := 10) B dX1_rainyHours_10 ?_
          refine rr_aload0 (pc := 11) B dX1_rainyHours_11 ?_
          refine rr_getR (pc := 12) B dX1_rainyHours_12 fl_1_15 or_1_1 ?_
          refine rr_iload2 (pc := 15) B dX1_rainyHours_15 ?_
          refine rr_iaload (pc := 16) B dX1_rainyHours_16 sa_16 (by omega) (fun b2 => ?_)
          refine rr_iadd (pc := 17) B dX1_rainyHours_17 ?_
          refine rr_istore1 (pc := 18) B dX1_rainyHours_18 rfl ?_
          refine rr_iinc2 (z := 1) (pc := 19) B dX1_rainyHours_19 rfl ?_
          refine rr_goto 4 (pc := 22) B dX1_rainyHours_22 (by decide) ?_
          refine ih.1 _ _ ?_ ?_ ?_
          · omega
          · rw [itI_s _ _ (by omega), ← K1]
          · omega
  refine rr_iconst (z := 0) (pc := 0) B dX1_rainyHours_0 ?_
  refine rr_istore1 (pc := 1) B dX1_rainyHours_1 rfl ?_
  refine rr_iconst (z := 0) (pc := 2) B dX1_rainyHours_2 ?_
  refine rr_istore2 (pc := 3) B dX1_rainyHours_3 rfl ?_
  refine (L _).1 _ _ ?_ ?_ (Nat.lt_succ_self _)
  · omega
  · rfl
set_option maxHeartbeats 4000000 in
set_option maxRecDepth 100000 in
theorem ct_X3_isFull (g : ax_G) (M : ax_M) : CT g md_X3_isFull 0 [aR 3] M (pI (bi (decide (10 ≤ M 3 0))) (M)) := by
  refine ct_intro 0 rfl rfl ?_
  intro X hg B Br
  subst hg
  show AW X 0 [some (aR 3)] [] M
  refine rr_rg (fun G0 => ?_)
  refine rr_aload0 (pc := 0) B dX3_isFull_0 ?_
  refine rr_getI (pc := 1) B dX3_isFull_1 fl_3_18 ob_3_0 (fun b1 => ?_)
  refine rr_bipush (z := 10) (pc := 4) B dX3_isFull_4 (by decide) ?_
  refine rr_icmp_lt 13 (pc := 6) B dX3_isFull_6 (by decide) (by omega) (fun b2 => ?_) (fun b2 => ?_)
  · refine rr_iconst (z := 0) (pc := 13) B dX3_isFull_13 ?_
    refine rr_zreturn (pc := 14) B Br dX3_isFull_14 (by omega) ⟨congrArg (fun z => some (aI z)) ?_, ?_⟩
    · first | rfl | omega | (rw [decide_eq_true (by omega)]; rfl) | (rw [decide_eq_false (by omega)]; rfl) | (simp [*]; done)
    · first | rfl | assumption
  · refine rr_iconst (z := 1) (pc := 9) B dX3_isFull_9 ?_
    refine rr_goto 14 (pc := 10) B dX3_isFull_10 (by decide) ?_
    refine rr_zreturn (pc := 14) B Br dX3_isFull_14 (by omega) ⟨congrArg (fun z => some (aI z)) ?_, ?_⟩
    · first | rfl | omega | (rw [decide_eq_true (by omega)]; rfl) | (rw [decide_eq_false (by omega)]; rfl) | (simp [*]; done)
    · first | rfl | assumption
set_option maxHeartbeats 4000000 in
set_option maxRecDepth 100000 in
theorem ct_X3_add (g : ax_G) (M : ax_M) (d e : Int) (H0 : 0 ≤ d ∧ d ≤ 7) (H1 : 0 ≤ e ∧ e ≤ 7) (H2 : M 3 0 < 10) : CT g md_X3_add 0 [aR 3, aI d, aI e] M (pI (M 3 0 + 1) (paM M d e)) := by
  refine ct_intro 0 rfl rfl ?_
  intro X hg B Br
  subst hg
  show AW X 0 [some (aR 3), some (aI d), some (aI e)] [] M
  refine rr_rg (fun G0 => ?_)
  refine rr_aload0 (pc := 0) B dX3_add_0 ?_
  refine rr_getIE (pc := 1) B dX3_add_1 fl_3_18 ob_3_0 ((rfl : _ = M 3 0)) (fun b1 => ?_)
  refine rr_bipush (z := 10) (pc := 4) B dX3_add_4 (by decide) ?_
  refine rr_icmp_ge 39 (pc := 6) B dX3_add_6 (by decide) (by omega) (fun b2 => absurd b2 (by omega)) (fun b2 => ?_)
  refine rr_aload0 (pc := 9) B dX3_add_9 ?_
  refine rr_getR (pc := 10) B dX3_add_10 fl_3_11 or_3_1 ?_
  refine rr_aload0 (pc := 13) B dX3_add_13 ?_
  refine rr_getIE (pc := 14) B dX3_add_14 fl_3_18 ob_3_0 ((rfl : _ = M 3 0)) (fun b3 => ?_)
  refine rr_iload1 (pc := 17) B dX3_add_17 ?_
  refine rr_iastore (pc := 18) B dX3_add_18 sa_24 (by omega) (by omega) ?_
  refine rr_aload0 (pc := 19) B dX3_add_19 ?_
  refine rr_getR (pc := 20) B dX3_add_20 fl_3_15 or_3_2 ?_
  refine rr_aload0 (pc := 23) B dX3_add_23 ?_
  refine rr_getIE (pc := 24) B dX3_add_24 fl_3_18 ob_3_0 ((rfl : _ = M 3 0)) (fun b4 => ?_)
  refine rr_iload2 (pc := 27) B dX3_add_27 ?_
  refine rr_iastore (pc := 28) B dX3_add_28 sa_25 (by omega) (by omega) ?_
  refine rr_aload0 (pc := 29) B dX3_add_29 ?_
  refine rr_dup (pc := 30) B dX3_add_30 rfl ?_
  refine rr_getIE (pc := 31) B dX3_add_31 fl_3_18 ob_3_0 ((rfl : _ = M 3 0)) (fun b5 => ?_)
  refine rr_iconst (z := 1) (pc := 34) B dX3_add_34 ?_
  refine rr_iadd (pc := 35) B dX3_add_35 ?_
  refine rr_putI (pc := 36) B dX3_add_36 fl_3_18 ob_3_0 fi_3_0 (by omega) ?_
  refine rr_aload0 (pc := 39) B dX3_add_39 ?_
  refine rr_getIE (pc := 40) B dX3_add_40 fl_3_18 ob_3_0 (ms_at _ _ _ _) (fun b6 => ?_)
  refine rr_ireturn (pc := 43) B Br dX3_add_43 ⟨congrArg (fun z => some (aI z)) ?_, ?_⟩
  · rfl
  · first | rfl | assumption
set_option maxHeartbeats 4000000 in
set_option maxRecDepth 100000 in
theorem ct_X3_clear (g : ax_G) (M : ax_M) : CT g md_X3_clear 0 [aR 3] M (pI (M 3 0) (ms M 3 0 0)) := by
  refine ct_intro 1 rfl rfl ?_
  intro X hg B Br
  subst hg
  show AW X 0 [some (aR 3), none] [] M
  refine rr_rg (fun G0 => ?_)
  refine rr_aload0 (pc := 0) B dX3_clear_0 ?_
  refine rr_getI (pc := 1) B dX3_clear_1 fl_3_18 ob_3_0 (fun b1 => ?_)
  refine rr_istore1 (pc := 4) B dX3_clear_4 rfl ?_
  refine rr_aload0 (pc := 5) B dX3_clear_5 ?_
  refine rr_iconst (z := 0) (pc := 6) B dX3_clear_6 ?_
  refine rr_putI (pc := 7) B dX3_clear_7 fl_3_18 ob_3_0 fi_3_0 (by omega) ?_
  refine rr_iload1 (pc := 10) B dX3_clear_10 ?_
  refine rr_ireturn (pc := 11) B Br dX3_clear_11 ⟨congrArg (fun z => some (aI z)) ?_, ?_⟩
  · first | rfl | omega | (rw [decide_eq_true (by omega)]; rfl) | (rw [decide_eq_false (by omega)]; rfl) | (simp [*]; done)
  · first | rfl | assumption
set_option maxHeartbeats 4000000 in
set_option maxRecDepth 100000 in
theorem ct_X3_reached (g : ax_G) (M : ax_M) (fr pr : Int) (H0 : 0 ≤ fr ∧ fr < 256) (H1 : 0 ≤ pr ∧ pr < 256) : CT g md_X3_reached 1 [aR 3, aI fr, aI pr] M (pI (rcC M fr pr) (M)) := by
  refine ct_intro 3 rfl rfl ?_
  intro X hg B Br
  subst hg
  show AW X 0 [some (aR 3), some (aI fr), some (aI pr), none, none, none] [] M
  refine rr_rg (fun G0 => ?_)
  have L : ∀ nn : Nat, (∀ (r t : Int) (w5 : Option ax_V), (0 ≤ t ∧ t ≤ 8) → (r = itI (fun _ r => itI (rcCS M pr) r (M 3 0)) fr t) → (0 ≤ r ∧ r < 256) → ((20 * (8 - t) + 19).toNat) < nn → AW X 5 [some (aR 3), some (aI fr), some (aI pr), some (aI r), some (aI t), w5] [] M) ∧ (∀ (r t k : Int), (0 ≤ t ∧ t < 8) → (0 ≤ k ∧ k ≤ M 3 0) → (0 ≤ r ∧ r < 256) → (r = itI (rcCS M pr) (itI (fun _ r => itI (rcCS M pr) r (M 3 0)) fr t) k) → ((20 * (8 - t) + 10 - k).toNat) < nn → AW X 15 [some (aR 3), some (aI fr), some (aI pr), some (aI r), some (aI t), some (aI k)] [] M) ∧ True := by
    intro nn
    induction nn with
    | zero => exact ⟨by intros; omega, by intros; omega, trivial⟩
    | succ nn ih =>
      refine ⟨?_, ?_, trivial⟩
      · intro r t w5 K0 K1 K2 hm
        refine rr_iload4 (pc := 5) B dX3_reached_5 ?_
        refine rr_bipush (z := 8) (pc := 7) B dX3_reached_7 (by decide) ?_
        refine rr_icmp_ge 90 (pc := 9) B dX3_reached_9 (by decide) (by omega) (fun b1 => ?_) (fun b1 => ?_)
        · refine rr_iload3 (pc := 90) B dX3_reached_90 ?_
          refine rr_ireturn (pc := 91) B Br dX3_reached_91 ⟨congrArg (fun z => some (aI z)) ?_, ?_⟩
          · unfold rcC; rw [K1, show t = 8 by omega]
          · first | rfl | assumption
        · refine rr_iconst (z := 0) (pc := 12) B dX3_reached_12 ?_
          refine rr_istore5 (pc := 13) B dX3_reached_13 rfl ?_
          refine ih.2.1 _ _ _ ?_ ?_ ?_ ?_ ?_
          · omega
          · have := G0.at ob_3_0.2.1; omega
          · omega
          · exact K1
          · omega
      · intro r t k K0 K1 K2 K3 hm
        refine rr_iload5 (pc := 15) B dX3_reached_15 ?_
        refine rr_aload0 (pc := 17) B dX3_reached_17 ?_
        refine rr_getI (pc := 18) B dX3_reached_18 fl_3_18 ob_3_0 (fun b1 => ?_)
        refine rr_icmp_ge 84 (pc := 21) B dX3_reached_21 (by decide) (by omega) (fun b2 => ?_) (fun b2 => ?_)
        · refine rr_iinc4 (z := 1) (pc := 84) B dX3_reached_84 rfl ?_
          refine rr_goto 5 (pc := 87) B dX3_reached_87 (by decide) ?_
          refine ih.1 _ _ _ ?_ ?_ ?_ ?_
          · omega
          · rw [itI_s _ _ (by omega), K3, show k = M 3 0 by omega]
          · omega
          · omega
        · refine rr_iload3 (pc := 24) B dX3_reached_24 ?_
          refine rr_aload0 (pc := 25) B dX3_reached_25 ?_
          refine rr_getR (pc := 26) B dX3_reached_26 fl_3_11 or_3_1 ?_
          refine rr_iload5 (pc := 29) B dX3_reached_29 ?_
          refine rr_iaload (pc := 31) B dX3_reached_31 sa_24 (by omega) (fun b3 => ?_)
          refine rc_NI2 (pc := 32) B dX3_reached_32 st_X8_hasBit lk_3_22 (ct_X8_hasBit _ _ _ _  (by omega) (by omega)) (Nat.le_of_ble_eq_true rfl) (Nat.le_of_ble_eq_true rfl) ?_
          refine rr_if_eqB 78 (pc := 35) B dX3_reached_35 (by decide) (fun b4 => ?_) (fun b4 => ?_)
          · refine rr_iinc5 (z := 1) (pc := 78) B dX3_reached_78 rfl ?_
            refine rr_goto 15 (pc := 81) B dX3_reached_81 (by decide) ?_
            refine ih.2.1 _ _ _ ?_ ?_ ?_ ?_ ?_
            · omega
            · omega
            · first | omega | (simp only [show ((2 ^ 8 : Nat) : Int) = 256 from rfl] at *; omega)
            · rw [itI_s _ _ (by omega), ← K3]; unfold rcCS; first | (rw [if_pos ⟨by assumption, by assumption, by assumption⟩]; done) | (rw [if_neg (by rintro ⟨q1, q2, q3⟩; simp_all)]; done)
            · omega
          · refine rr_iload2 (pc := 38) B dX3_reached_38 ?_
            refine rr_aload0 (pc := 39) B dX3_reached_39 ?_
            refine rr_getR (pc := 40) B dX3_reached_40 fl_3_11 or_3_1 ?_
            refine rr_iload5 (pc := 43) B dX3_reached_43 ?_
            refine rr_iaload (pc := 45) B dX3_reached_45 sa_24 (by omega) (fun b5 => ?_)
            refine rc_NI2 (pc := 46) B dX3_reached_46 st_X8_hasBit lk_3_22 (ct_X8_hasBit _ _ _ _  (by omega) (by omega)) (Nat.le_of_ble_eq_true rfl) (Nat.le_of_ble_eq_true rfl) ?_
            refine rr_if_eqB 78 (pc := 49) B dX3_reached_49 (by decide) (fun b6 => ?_) (fun b6 => ?_)
            · refine rr_iinc5 (z := 1) (pc := 78) B dX3_reached_78 rfl ?_
              refine rr_goto 15 (pc := 81) B dX3_reached_81 (by decide) ?_
              refine ih.2.1 _ _ _ ?_ ?_ ?_ ?_ ?_
              · omega
              · omega
              · first | omega | (simp only [show ((2 ^ 8 : Nat) : Int) = 256 from rfl] at *; omega)
              · rw [itI_s _ _ (by omega), ← K3]; unfold rcCS; first | (rw [if_pos ⟨by assumption, by assumption, by assumption⟩]; done) | (rw [if_neg (by rintro ⟨q1, q2, q3⟩; simp_all)]; done)
              · omega
            · refine rr_iload2 (pc := 52) B dX3_reached_52 ?_
              refine rr_aload0 (pc := 53) B dX3_reached_53 ?_
              refine rr_getR (pc := 54) B dX3_reached_54 fl_3_15 or_3_2 ?_
              refine rr_iload5 (pc := 57) B dX3_reached_57 ?_
              refine rr_iaload (pc := 59) B dX3_reached_59 sa_25 (by omega) (fun b7 => ?_)
              refine rc_NI2 (pc := 60) B dX3_reached_60 st_X8_hasBit lk_3_22 (ct_X8_hasBit _ _ _ _  (by omega) (by omega)) (Nat.le_of_ble_eq_true rfl) (Nat.le_of_ble_eq_true rfl) ?_
              refine rr_if_eqB 78 (pc := 63) B dX3_reached_63 (by decide) (fun b8 => ?_) (fun b8 => ?_)
              · refine rr_iinc5 (z := 1) (pc := 78) B dX3_reached_78 rfl ?_
                refine rr_goto 15 (pc := 81) B dX3_reached_81 (by decide) ?_
                refine ih.2.1 _ _ _ ?_ ?_ ?_ ?_ ?_
                · omega
                · omega
                · first | omega | (simp only [show ((2 ^ 8 : Nat) : Int) = 256 from rfl] at *; omega)
                · rw [itI_s _ _ (by omega), ← K3]; unfold rcCS; first | (rw [if_pos ⟨by assumption, by assumption, by assumption⟩]; done) | (rw [if_neg (by rintro ⟨q1, q2, q3⟩; simp_all)]; done)
                · omega
              · refine rr_iload3 (pc := 66) B dX3_reached_66 ?_
                refine rr_iconst (z := 1) (pc := 67) B dX3_reached_67 ?_
                refine rr_aload0 (pc := 68) B dX3_reached_68 ?_
                refine rr_getR (pc := 69) B dX3_reached_69 fl_3_15 or_3_2 ?_
                refine rr_iload5 (pc := 72) B dX3_reached_72 ?_
                refine rr_iaload (pc := 74) B dX3_reached_74 sa_25 (by omega) (fun b9 => ?_)
                refine rr_shl1 (pc := 75) B dX3_reached_75 (by omega) (fun b10 => ?_)
                refine rr_orN 8 (pc := 76) B dX3_reached_76 (by decide) (by have q2 := p2_le (a := M 25 k) (b := 7) (by omega); have q3 : p2 7 = 128 := rfl; omega) (fun b11 => ?_)
                refine rr_istore3 (pc := 77) B dX3_reached_77 rfl ?_
                refine rr_iinc5 (z := 1) (pc := 78) B dX3_reached_78 rfl ?_
                refine rr_goto 15 (pc := 81) B dX3_reached_81 (by decide) ?_
                refine ih.2.1 _ _ _ ?_ ?_ ?_ ?_ ?_
                · omega
                · omega
                · first | omega | (simp only [show ((2 ^ 8 : Nat) : Int) = 256 from rfl] at *; omega)
                · rw [itI_s _ _ (by omega), ← K3]; unfold rcCS; first | (rw [if_pos ⟨by assumption, by assumption, by assumption⟩]; done) | (rw [if_neg (by rintro ⟨q1, q2, q3⟩; simp_all)]; done)
                · omega
  refine rr_iload1 (pc := 0) B dX3_reached_0 ?_
  refine rr_istore3 (pc := 1) B dX3_reached_1 rfl ?_
  refine rr_iconst (z := 0) (pc := 2) B dX3_reached_2 ?_
  refine rr_istore4 (pc := 3) B dX3_reached_3 rfl ?_
  refine (L _).1 _ _ _ ?_ ?_ ?_ (Nat.lt_succ_self _)
  · omega
  · rfl
  · omega
set_option maxHeartbeats 4000000 in
set_option maxRecDepth 100000 in
theorem ct_X6_isLost (g : ax_G) (M : ax_M) (s : Int) (H0 : 0 ≤ s ∧ s ≤ 3) : CT g md_X6_isLost 0 [aR 6, aI s] M (pI (bi (decide (M 38 s = -1))) (M)) := by
  refine ct_intro 0 rfl rfl ?_
  intro X hg B Br
  subst hg
  show AW X 0 [some (aR 6), some (aI s)] [] M
  refine rr_rg (fun G0 => ?_)
  refine rr_aload0 (pc := 0) B dX6_isLost_0 ?_
  refine rr_getR (pc := 1) B dX6_isLost_1 fl_6_16 or_6_1 ?_
  refine rr_iload1 (pc := 4) B dX6_isLost_4 ?_
  refine rr_iaload (pc := 5) B dX6_isLost_5 sa_38 (by omega) (fun b1 => ?_)
  refine rr_iconst (z := (-1)) (pc := 6) B dX6_isLost_6 ?_
  refine rr_icmp_ne 14 (pc := 7) B dX6_isLost_7 (by decide) (by omega) (fun b2 => ?_) (fun b2 => ?_)
  · refine rr_iconst (z := 0) (pc := 14) B dX6_isLost_14 ?_
    refine rr_zreturn (pc := 15) B Br dX6_isLost_15 (by omega) ⟨congrArg (fun z => some (aI z)) ?_, ?_⟩
    · first | rfl | omega | (rw [decide_eq_true (by omega)]; rfl) | (rw [decide_eq_false (by omega)]; rfl) | (simp [*]; done)
    · first | rfl | assumption
  · refine rr_iconst (z := 1) (pc := 10) B dX6_isLost_10 ?_
    refine rr_goto 15 (pc := 11) B dX6_isLost_11 (by decide) ?_
    refine rr_zreturn (pc := 15) B Br dX6_isLost_15 (by omega) ⟨congrArg (fun z => some (aI z)) ?_, ?_⟩
    · first | rfl | omega | (rw [decide_eq_true (by omega)]; rfl) | (rw [decide_eq_false (by omega)]; rfl) | (simp [*]; done)
    · first | rfl | assumption
set_option maxHeartbeats 4000000 in
set_option maxRecDepth 100000 in
theorem ct_X6_tell (g : ax_G) (M : ax_M) (f : Int) (H0 : 0 ≤ f ∧ f ≤ 5) : CT g md_X6_tell 0 [aR 6, aI f] M (pI (-10 - f) (ms M 6 3 f)) := by
  refine ct_intro 0 rfl rfl ?_
  intro X hg B Br
  subst hg
  show AW X 0 [some (aR 6), some (aI f)] [] M
  refine rr_rg (fun G0 => ?_)
  refine rr_aload0 (pc := 0) B dX6_tell_0 ?_
  refine rr_iload1 (pc := 1) B dX6_tell_1 ?_
  refine rr_putI (pc := 2) B dX6_tell_2 fl_6_27 ob_6_3 fi_6_3 (by omega) ?_
  refine rr_bipush (z := (-10)) (pc := 5) B dX6_tell_5 (by decide) ?_
  refine rr_iload1 (pc := 7) B dX6_tell_7 ?_
  refine rr_isub (pc := 8) B dX6_tell_8 ?_
  refine rr_ireturn (pc := 9) B Br dX6_tell_9 ⟨congrArg (fun z => some (aI z)) ?_, ?_⟩
  · first | rfl | omega | (rw [decide_eq_true (by omega)]; rfl) | (rw [decide_eq_false (by omega)]; rfl) | (simp [*]; done)
  · first | rfl | assumption
set_option maxHeartbeats 4000000 in
set_option maxRecDepth 100000 in
theorem ct_X6_drop (g : ax_G) (M : ax_M) (s : Int) (H0 : 0 ≤ s ∧ s ≤ 3) : CT g md_X6_drop 0 [aR 6, aI s] M (pI (M 39 s) (ms M 38 s (-1))) := by
  refine ct_intro 0 rfl rfl ?_
  intro X hg B Br
  subst hg
  show AW X 0 [some (aR 6), some (aI s)] [] M
  refine rr_rg (fun G0 => ?_)
  refine rr_aload0 (pc := 0) B dX6_drop_0 ?_
  refine rr_getR (pc := 1) B dX6_drop_1 fl_6_16 or_6_1 ?_
  refine rr_iload1 (pc := 4) B dX6_drop_4 ?_
  refine rr_iconst (z := (-1)) (pc := 5) B dX6_drop_5 ?_
  refine rr_iastore (pc := 6) B dX6_drop_6 sa_38 (by omega) (by omega) ?_
  refine rr_aload0 (pc := 7) B dX6_drop_7 ?_
  refine rr_getR (pc := 8) B dX6_drop_8 fl_6_20 or_6_2 ?_
  refine rr_iload1 (pc := 11) B dX6_drop_11 ?_
  refine rr_iaload (pc := 12) B dX6_drop_12 sa_39 (by omega) (fun b1 => ?_)
  refine rr_ireturn (pc := 13) B Br dX6_drop_13 ⟨congrArg (fun z => some (aI z)) ?_, ?_⟩
  · rfl
  · first | rfl | assumption
set_option maxHeartbeats 4000000 in
set_option maxRecDepth 100000 in
theorem ct_X6_renew (g : ax_G) (M : ax_M) (s f n : Int) (H0 : 0 ≤ s ∧ s ≤ 3) (H1 : 0 ≤ f ∧ f ≤ 2) (H2 : 0 ≤ n ∧ n ≤ 60) : CT g md_X6_renew 0 [aR 6, aI s, aI f, aI n] M (pI (n) (rnR (ms (ms M 38 s f) 39 s n) s 60)) := by
  refine ct_intro 1 rfl rfl ?_
  intro X hg B Br
  subst hg
  show AW X 0 [some (aR 6), some (aI s), some (aI f), some (aI n), none] [] M
  refine rr_rg (fun G0 => ?_)
  have L : ∀ nn : Nat, (∀ (M1 : ax_M) (i : Int), (0 ≤ i ∧ i ≤ 60) → (M1 = rnR (ms (ms M 38 s f) 39 s n) s i) → ((60 - i).toNat) < nn → AW X 17 [some (aR 6), some (aI s), some (aI f), some (aI n), some (aI i)] [] M1) ∧ True := by
    intro nn
    induction nn with
    | zero => exact ⟨by intros; omega, trivial⟩
    | succ nn ih =>
      refine ⟨?_, trivial⟩
      · intro M1 i K0 K1 hm
        refine rr_rg (fun G1 => ?_)
        refine rr_iload4 (pc := 17) B dX6_renew_17 ?_
        refine rr_bipush (z := 60) (pc := 19) B dX6_renew_19 (by decide) ?_
        refine rr_icmp_ge 40 (pc := 21) B dX6_renew_21 (by decide) (by omega) (fun b1 => ?_) (fun b1 => ?_)
        · refine rr_iload3 (pc := 40) B dX6_renew_40 ?_
          refine rr_ireturn (pc := 41) B Br dX6_renew_41 ⟨congrArg (fun z => some (aI z)) ?_, ?_⟩
          · first | rfl | omega | (rw [decide_eq_true (by omega)]; rfl) | (rw [decide_eq_false (by omega)]; rfl) | (simp [*]; done)
          · rw [K1, show i = 60 by omega]
        · refine rr_aload0 (pc := 24) B dX6_renew_24 ?_
          refine rr_getR (pc := 25) B dX6_renew_25 fl_6_13 or_6_0 ?_
          refine rr_iload1 (pc := 28) B dX6_renew_28 ?_
          refine rr_aaload (k2 := 34 + Int.toNat s) (pc := 29) B dX6_renew_29 (ax_shp_33) (by decide) (by omega) (rows_at (by omega)) ?_
          refine rr_iload4 (pc := 30) B dX6_renew_30 ?_
          refine rr_iconst (z := 0) (pc := 32) B dX6_renew_32 ?_
          refine rr_iastore (pc := 33) B dX6_renew_33 (sa_rows (by omega)) (by omega) (by omega) ?_
          refine rr_iinc4 (z := 1) (pc := 34) B dX6_renew_34 rfl ?_
          refine rr_goto 17 (pc := 37) B dX6_renew_37 (by decide) ?_
          refine ih.1 _ _ ?_ ?_ ?_
          · omega
          · rw [show rnR (ms (ms M 38 s f) 39 s n) s (i + 1) = ms (rnR (ms (ms M 38 s f) 39 s n) s i) (34 + s.toNat) i 0 from itI_s _ _ K0.1, ← K1]
          · omega
  refine rr_aload0 (pc := 0) B dX6_renew_0 ?_
  refine rr_getR (pc := 1) B dX6_renew_1 fl_6_16 or_6_1 ?_
  refine rr_iload1 (pc := 4) B dX6_renew_4 ?_
  refine rr_iload2 (pc := 5) B dX6_renew_5 ?_
  refine rr_iastore (pc := 6) B dX6_renew_6 sa_38 (by omega) (by omega) ?_
  refine rr_aload0 (pc := 7) B dX6_renew_7 ?_
  refine rr_getR (pc := 8) B dX6_renew_8 fl_6_20 or_6_2 ?_
  refine rr_iload1 (pc := 11) B dX6_renew_11 ?_
  refine rr_iload3 (pc := 12) B dX6_renew_12 ?_
  refine rr_iastore (pc := 13) B dX6_renew_13 sa_39 (by omega) (by omega) ?_
  refine rr_iconst (z := 0) (pc := 14) B dX6_renew_14 ?_
  refine rr_istore4 (pc := 15) B dX6_renew_15 rfl ?_
  refine (L _).1 _ _ ?_ ?_ (Nat.lt_succ_self _)
  · omega
  · rfl
set_option maxHeartbeats 4000000 in
set_option maxRecDepth 100000 in
theorem ct_X6_findingAt (g : ax_G) (M : ax_M) (s f i : Int) (H0 : 0 ≤ s ∧ s ≤ 3) (H1 : -2147483648 ≤ f ∧ f ≤ 2147483647 ∧ -2147483648 ≤ i ∧ i ≤ 2147483647) : CT g md_X6_findingAt 1 [aR 6, aI s, aI f, aI i] M (pI (fndC M s f i) (M)) := by
  refine ct_intro 0 rfl rfl ?_
  intro X hg B Br
  subst hg
  show AW X 0 [some (aR 6), some (aI s), some (aI f), some (aI i)] [] M
  refine rr_rg (fun G0 => ?_)
  refine rr_aload0 (pc := 0) B dX6_findingAt_0 ?_
  refine rr_iload1 (pc := 1) B dX6_findingAt_1 ?_
  refine rc_VI1 (pc := 2) B dX6_findingAt_2 vm_X6_isLost lk_6_31 so_6 rfl (ct_X6_isLost _ _ _  (by omega)) (Nat.le_of_ble_eq_true rfl) (Nat.le_of_ble_eq_true rfl) ?_
  refine rr_if_eqB 10 (pc := 5) B dX6_findingAt_5 (by decide) (fun b1 => ?_) (fun b1 => ?_)
  · replace b1 := of_decide_eq_false b1
    refine rr_aload0 (pc := 10) B dX6_findingAt_10 ?_
    refine rr_getR (pc := 11) B dX6_findingAt_11 fl_6_16 or_6_1 ?_
    refine rr_iload1 (pc := 14) B dX6_findingAt_14 ?_
    refine rr_iaload (pc := 15) B dX6_findingAt_15 sa_38 (by omega) (fun b2 => ?_)
    refine rr_iload2 (pc := 16) B dX6_findingAt_16 ?_
    refine rr_icmp_eq 22 (pc := 17) B dX6_findingAt_17 (by decide) (by omega) (fun b3 => ?_) (fun b3 => ?_)
    · refine rr_iload3 (pc := 22) B dX6_findingAt_22 ?_
      refine rr_aload0 (pc := 23) B dX6_findingAt_23 ?_
      refine rr_getR (pc := 24) B dX6_findingAt_24 fl_6_20 or_6_2 ?_
      refine rr_iload1 (pc := 27) B dX6_findingAt_27 ?_
      refine rr_iaload (pc := 28) B dX6_findingAt_28 sa_39 (by omega) (fun b4 => ?_)
      refine rr_iconst (z := 1) (pc := 29) B dX6_findingAt_29 ?_
      refine rr_isub (pc := 30) B dX6_findingAt_30 ?_
      refine rc_NI2 (pc := 31) B dX6_findingAt_31 st_X8_within lk_6_23 (ct_X8_within _ _ _ _  (by omega)) (Nat.le_of_ble_eq_true rfl) (Nat.le_of_ble_eq_true rfl) ?_
      refine rr_if_eqB 41 (pc := 34) B dX6_findingAt_34 (by decide) (fun b5 => ?_) (fun b5 => ?_)
      · replace b5 := of_decide_eq_false b5
        refine rr_iconst (z := 2) (pc := 41) B dX6_findingAt_41 ?_
        refine rr_ireturn (pc := 42) B Br dX6_findingAt_42 ⟨congrArg (fun z => some (aI z)) ?_, ?_⟩
        · unfold fndC; repeat (first | rw [if_pos (by omega)] | rw [if_neg (by omega)])
        · first | rfl | assumption
      · replace b5 := of_decide_eq_true b5
        refine rr_iconst (z := 0) (pc := 37) B dX6_findingAt_37 ?_
        refine rr_goto 42 (pc := 38) B dX6_findingAt_38 (by decide) ?_
        refine rr_ireturn (pc := 42) B Br dX6_findingAt_42 ⟨congrArg (fun z => some (aI z)) ?_, ?_⟩
        · unfold fndC; repeat (first | rw [if_pos (by omega)] | rw [if_neg (by omega)])
        · first | rfl | assumption
    · refine rr_iconst (z := 3) (pc := 20) B dX6_findingAt_20 ?_
      refine rr_ireturn (pc := 21) B Br dX6_findingAt_21 ⟨congrArg (fun z => some (aI z)) ?_, ?_⟩
      · unfold fndC; repeat (first | rw [if_pos (by omega)] | rw [if_neg (by omega)])
      · first | rfl | assumption
  · replace b1 := of_decide_eq_true b1
    refine rr_iconst (z := 1) (pc := 8) B dX6_findingAt_8 ?_
    refine rr_ireturn (pc := 9) B Br dX6_findingAt_9 ⟨congrArg (fun z => some (aI z)) ?_, ?_⟩
    · unfold fndC; repeat (first | rw [if_pos (by omega)] | rw [if_neg (by omega)])
    · first | rfl | assumption
set_option maxHeartbeats 4000000 in
set_option maxRecDepth 100000 in
theorem ct_X6_hasSpan (g : ax_G) (M : ax_M) (s i n : Int) (H0 : 0 ≤ s ∧ s ≤ 3) (H1 : -2147483648 ≤ i ∧ i ≤ 2147483647 ∧ -2147483648 ≤ n ∧ n ≤ 2147483647) : CT g md_X6_hasSpan 0 [aR 6, aI s, aI i, aI n] M (pI (bi (decide (0 ≤ i ∧ 0 ≤ n ∧ i ≤ M 39 s - n))) (M)) := by
  refine ct_intro 0 rfl rfl ?_
  intro X hg B Br
  subst hg
  show AW X 0 [some (aR 6), some (aI s), some (aI i), some (aI n)] [] M
  refine rr_rg (fun G0 => ?_)
  refine rr_iload2 (pc := 0) B dX6_hasSpan_0 ?_
  refine rr_if_lt 24 (pc := 1) B dX6_hasSpan_1 (by decide) (by omega) (fun b1 => ?_) (fun b1 => ?_)
  · refine rr_iconst (z := 0) (pc := 24) B dX6_hasSpan_24 ?_
    refine rr_zreturn (pc := 25) B Br dX6_hasSpan_25 (by omega) ⟨congrArg (fun z => some (aI z)) ?_, ?_⟩
    · first | rfl | omega | (rw [decide_eq_true (by omega)]; rfl) | (rw [decide_eq_false (by omega)]; rfl) | (simp [*]; done)
    · first | rfl | assumption
  · refine rr_iload3 (pc := 4) B dX6_hasSpan_4 ?_
    refine rr_if_lt 24 (pc := 5) B dX6_hasSpan_5 (by decide) (by omega) (fun b2 => ?_) (fun b2 => ?_)
    · refine rr_iconst (z := 0) (pc := 24) B dX6_hasSpan_24 ?_
      refine rr_zreturn (pc := 25) B Br dX6_hasSpan_25 (by omega) ⟨congrArg (fun z => some (aI z)) ?_, ?_⟩
      · first | rfl | omega | (rw [decide_eq_true (by omega)]; rfl) | (rw [decide_eq_false (by omega)]; rfl) | (simp [*]; done)
      · first | rfl | assumption
    · refine rr_iload2 (pc := 8) B dX6_hasSpan_8 ?_
      refine rr_aload0 (pc := 9) B dX6_hasSpan_9 ?_
      refine rr_getR (pc := 10) B dX6_hasSpan_10 fl_6_20 or_6_2 ?_
      refine rr_iload1 (pc := 13) B dX6_hasSpan_13 ?_
      refine rr_iaload (pc := 14) B dX6_hasSpan_14 sa_39 (by omega) (fun b3 => ?_)
      refine rr_iload3 (pc := 15) B dX6_hasSpan_15 ?_
      refine rr_isub (pc := 16) B dX6_hasSpan_16 ?_
      refine rr_icmp_gt 24 (pc := 17) B dX6_hasSpan_17 (by decide) (by omega) (fun b4 => ?_) (fun b4 => ?_)
      · refine rr_iconst (z := 0) (pc := 24) B dX6_hasSpan_24 ?_
        refine rr_zreturn (pc := 25) B Br dX6_hasSpan_25 (by omega) ⟨congrArg (fun z => some (aI z)) ?_, ?_⟩
        · first | rfl | omega | (rw [decide_eq_true (by omega)]; rfl) | (rw [decide_eq_false (by omega)]; rfl) | (simp [*]; done)
        · first | rfl | assumption
      · refine rr_iconst (z := 1) (pc := 20) B dX6_hasSpan_20 ?_
        refine rr_goto 25 (pc := 21) B dX6_hasSpan_21 (by decide) ?_
        refine rr_zreturn (pc := 25) B Br dX6_hasSpan_25 (by omega) ⟨congrArg (fun z => some (aI z)) ?_, ?_⟩
        · first | rfl | omega | (rw [decide_eq_true (by omega)]; rfl) | (rw [decide_eq_false (by omega)]; rfl) | (simp [*]; done)
        · first | rfl | assumption
set_option maxHeartbeats 4000000 in
set_option maxRecDepth 100000 in
theorem ct_X6_store (g : ax_G) (M : ax_M) (s i v : Int) (H0 : 0 ≤ s ∧ s ≤ 3) (H1 : 0 ≤ i ∧ i < 60) (H2 : -2147483648 ≤ v ∧ v ≤ 2147483647) : CT g md_X6_store 0 [aR 6, aI s, aI i, aI v] M (pV (ms M (34 + s.toNat) i (stV M s v))) := by
  refine ct_intro 0 rfl rfl ?_
  intro X hg B Br
  subst hg
  show AW X 0 [some (aR 6), some (aI s), some (aI i), some (aI v)] [] M
  refine rr_rg (fun G0 => ?_)
  refine rr_aload0 (pc := 0) B dX6_store_0 ?_
  refine rr_getR (pc := 1) B dX6_store_1 fl_6_16 or_6_1 ?_
  refine rr_iload1 (pc := 4) B dX6_store_4 ?_
  refine rr_iaload (pc := 5) B dX6_store_5 sa_38 (by omega) (fun b1 => ?_)
  refine rr_if_ne 22 (pc := 6) B dX6_store_6 (by decide) (by omega) (fun b2 => ?_) (fun b2 => ?_)
  · refine rr_aload0 (pc := 22) B dX6_store_22 ?_
    refine rr_getR (pc := 23) B dX6_store_23 fl_6_16 or_6_1 ?_
    refine rr_iload1 (pc := 26) B dX6_store_26 ?_
    refine rr_iaload (pc := 27) B dX6_store_27 sa_38 (by omega) (fun b3 => ?_)
    refine rr_iconst (z := 1) (pc := 28) B dX6_store_28 ?_
    refine rr_icmp_ne 45 (pc := 29) B dX6_store_29 (by decide) (by omega) (fun b4 => ?_) (fun b4 => ?_)
    · refine rr_aload0 (pc := 45) B dX6_store_45 ?_
      refine rr_getR (pc := 46) B dX6_store_46 fl_6_13 or_6_0 ?_
      refine rr_iload1 (pc := 49) B dX6_store_49 ?_
      refine rr_aaload (k2 := 34 + Int.toNat s) (pc := 50) B dX6_store_50 (ax_shp_33) (by decide) (by omega) (rows_at (by omega)) ?_
      refine rr_iload2 (pc := 51) B dX6_store_51 ?_
      refine rr_iload3 (pc := 52) B dX6_store_52 ?_
      refine rr_iastore (pc := 53) B dX6_store_53 (sa_rows (by omega)) (by omega) (by omega) ?_
      refine rr_return (pc := 54) B Br dX6_store_54 ⟨rfl, ?_⟩
      · unfold stV; repeat (first | rw [if_pos (by omega)] | rw [if_neg (by omega)])
    · refine rr_aload0 (pc := 32) B dX6_store_32 ?_
      refine rr_getR (pc := 33) B dX6_store_33 fl_6_13 or_6_0 ?_
      refine rr_iload1 (pc := 36) B dX6_store_36 ?_
      refine rr_aaload (k2 := 34 + Int.toNat s) (pc := 37) B dX6_store_37 (ax_shp_33) (by decide) (by omega) (rows_at (by omega)) ?_
      refine rr_iload2 (pc := 38) B dX6_store_38 ?_
      refine rr_iload3 (pc := 39) B dX6_store_39 ?_
      refine rr_i2s (pc := 40) B dX6_store_40 ?_
      refine rr_iastore (pc := 41) B dX6_store_41 (sa_rows (by omega)) (by omega) (by exact s16_r v) ?_
      refine rr_goto 54 (pc := 42) B dX6_store_42 (by decide) ?_
      refine rr_return (pc := 54) B Br dX6_store_54 ⟨rfl, ?_⟩
      · unfold stV; repeat (first | rw [if_pos (by omega)] | rw [if_neg (by omega)])
  · refine rr_aload0 (pc := 9) B dX6_store_9 ?_
    refine rr_getR (pc := 10) B dX6_store_10 fl_6_13 or_6_0 ?_
    refine rr_iload1 (pc := 13) B dX6_store_13 ?_
    refine rr_aaload (k2 := 34 + Int.toNat s) (pc := 14) B dX6_store_14 (ax_shp_33) (by decide) (by omega) (rows_at (by omega)) ?_
    refine rr_iload2 (pc := 15) B dX6_store_15 ?_
    refine rr_iload3 (pc := 16) B dX6_store_16 ?_
    refine rr_i2b (pc := 17) B dX6_store_17 ?_
    refine rr_iastore (pc := 18) B dX6_store_18 (sa_rows (by omega)) (by omega) (by exact b8_r v) ?_
    refine rr_goto 54 (pc := 19) B dX6_store_19 (by decide) ?_
    refine rr_return (pc := 54) B Br dX6_store_54 ⟨rfl, ?_⟩
    · unfold stV; repeat (first | rw [if_pos (by omega)] | rw [if_neg (by omega)])
set_option maxHeartbeats 4000000 in
set_option maxRecDepth 100000 in
theorem ct_X7_isFull (g : ax_G) (M : ax_M) : CT g md_X7_isFull 0 [aR 7] M (pI (bi (decide (10 ≤ M 7 0))) (M)) := by
  refine ct_intro 0 rfl rfl ?_
  intro X hg B Br
  subst hg
  show AW X 0 [some (aR 7)] [] M
  refine rr_rg (fun G0 => ?_)
  refine rr_aload0 (pc := 0) B dX7_isFull_0 ?_
  refine rr_getI (pc := 1) B dX7_isFull_1 fl_7_22 ob_7_0 (fun b1 => ?_)
  refine rr_bipush (z := 10) (pc := 4) B dX7_isFull_4 (by decide) ?_
  refine rr_icmp_lt 13 (pc := 6) B dX7_isFull_6 (by decide) (by omega) (fun b2 => ?_) (fun b2 => ?_)
  · refine rr_iconst (z := 0) (pc := 13) B dX7_isFull_13 ?_
    refine rr_zreturn (pc := 14) B Br dX7_isFull_14 (by omega) ⟨congrArg (fun z => some (aI z)) ?_, ?_⟩
    · first | rfl | omega | (rw [decide_eq_true (by omega)]; rfl) | (rw [decide_eq_false (by omega)]; rfl) | (simp [*]; done)
    · first | rfl | assumption
  · refine rr_iconst (z := 1) (pc := 9) B dX7_isFull_9 ?_
    refine rr_goto 14 (pc := 10) B dX7_isFull_10 (by decide) ?_
    refine rr_zreturn (pc := 14) B Br dX7_isFull_14 (by omega) ⟨congrArg (fun z => some (aI z)) ?_, ?_⟩
    · first | rfl | omega | (rw [decide_eq_true (by omega)]; rfl) | (rw [decide_eq_false (by omega)]; rfl) | (simp [*]; done)
    · first | rfl | assumption
set_option maxHeartbeats 4000000 in
set_option maxRecDepth 100000 in
theorem ct_X7_clash (g : ax_G) (M : ax_M) (a b : Int) (H0 : 0 ≤ a ∧ a < 10) (H1 : 0 ≤ b ∧ b < 10) : CT g md_X7_clash 1 [aR 7, aI a, aI b] M (pI (bi (clB M a b)) (M)) := by
  refine ct_intro 2 rfl rfl ?_
  intro X hg B Br
  subst hg
  show AW X 0 [some (aR 7), some (aI a), some (aI b), none, none] [] M
  refine rr_rg (fun G0 => ?_)
  refine rr_aload0 (pc := 0) B dX7_clash_0 ?_
  refine rr_getR (pc := 1) B dX7_clash_1 fl_7_9 or_7_1 ?_
  refine rr_iload1 (pc := 4) B dX7_clash_4 ?_
  refine rr_iaload (pc := 5) B dX7_clash_5 sa_40 (by omega) (fun b1 => ?_)
  refine rr_aload0 (pc := 6) B dX7_clash_6 ?_
  refine rr_getR (pc := 7) B dX7_clash_7 fl_7_9 or_7_1 ?_
  refine rr_iload2 (pc := 10) B dX7_clash_10 ?_
  refine rr_iaload (pc := 11) B dX7_clash_11 sa_40 (by omega) (fun b2 => ?_)
  refine rr_icmp_eq 17 (pc := 12) B dX7_clash_12 (by decide) (by omega) (fun b3 => ?_) (fun b3 => ?_)
  · refine rr_aload0 (pc := 17) B dX7_clash_17 ?_
    refine rr_getR (pc := 18) B dX7_clash_18 fl_7_16 or_7_3 ?_
    refine rr_iload1 (pc := 21) B dX7_clash_21 ?_
    refine rr_iaload (pc := 22) B dX7_clash_22 sa_42 (by omega) (fun b4 => ?_)
    refine rr_aload0 (pc := 23) B dX7_clash_23 ?_
    refine rr_getR (pc := 24) B dX7_clash_24 fl_7_16 or_7_3 ?_
    refine rr_iload2 (pc := 27) B dX7_clash_27 ?_
    refine rr_iaload (pc := 28) B dX7_clash_28 sa_42 (by omega) (fun b5 => ?_)
    refine rr_isub (pc := 29) B dX7_clash_29 ?_
    refine rr_abs (pc := 30) B dX7_clash_30 (by decide) lk_7_38 (by omega) (Nat.le_of_ble_eq_true rfl) ?_
    refine rr_istore3 (pc := 33) B dX7_clash_33 rfl ?_
    refine rr_aload0 (pc := 34) B dX7_clash_34 ?_
    refine rr_getR (pc := 35) B dX7_clash_35 fl_7_13 or_7_2 ?_
    refine rr_iload1 (pc := 38) B dX7_clash_38 ?_
    refine rr_iaload (pc := 39) B dX7_clash_39 sa_41 (by omega) (fun b6 => ?_)
    refine rr_aload0 (pc := 40) B dX7_clash_40 ?_
    refine rr_getR (pc := 41) B dX7_clash_41 fl_7_13 or_7_2 ?_
    refine rr_iload2 (pc := 44) B dX7_clash_44 ?_
    refine rr_iaload (pc := 45) B dX7_clash_45 sa_41 (by omega) (fun b7 => ?_)
    refine rr_isub (pc := 46) B dX7_clash_46 ?_
    refine rr_abs (pc := 47) B dX7_clash_47 (by decide) lk_7_38 (by omega) (Nat.le_of_ble_eq_true rfl) ?_
    refine rr_istore4 (pc := 50) B dX7_clash_50 rfl ?_
    have A1 := ab_f (M 42 a - M 42 b)
    have A2 := ab_f (M 41 a - M 41 b)
    refine rr_iload3 (pc := 52) B dX7_clash_52 ?_
    refine rr_if_ne 61 (pc := 53) B dX7_clash_53 (by decide) (by omega) (fun b8 => ?_) (fun b8 => ?_)
    · refine rr_iload3 (pc := 61) B dX7_clash_61 ?_
      refine rr_iconst (z := 1) (pc := 62) B dX7_clash_62 ?_
      refine rr_icmp_ne 76 (pc := 63) B dX7_clash_63 (by decide) (by omega) (fun b9 => ?_) (fun b9 => ?_)
      · refine rr_iconst (z := 0) (pc := 76) B dX7_clash_76 ?_
        refine rr_zreturn (pc := 77) B Br dX7_clash_77 (by omega) ⟨congrArg (fun z => some (aI z)) ?_, ?_⟩
        · unfold clB; first | (rw [decide_eq_true (by omega)]; rfl) | (rw [decide_eq_false (by omega)]; rfl)
        · first | rfl | assumption
      · refine rr_iload4 (pc := 66) B dX7_clash_66 ?_
        refine rr_iconst (z := 2) (pc := 68) B dX7_clash_68 ?_
        refine rr_icmp_le 76 (pc := 69) B dX7_clash_69 (by decide) (by omega) (fun b10 => ?_) (fun b10 => ?_)
        · refine rr_iconst (z := 0) (pc := 76) B dX7_clash_76 ?_
          refine rr_zreturn (pc := 77) B Br dX7_clash_77 (by omega) ⟨congrArg (fun z => some (aI z)) ?_, ?_⟩
          · unfold clB; first | (rw [decide_eq_true (by omega)]; rfl) | (rw [decide_eq_false (by omega)]; rfl)
          · first | rfl | assumption
        · refine rr_iconst (z := 1) (pc := 72) B dX7_clash_72 ?_
          refine rr_goto 77 (pc := 73) B dX7_clash_73 (by decide) ?_
          refine rr_zreturn (pc := 77) B Br dX7_clash_77 (by omega) ⟨congrArg (fun z => some (aI z)) ?_, ?_⟩
          · unfold clB; first | (rw [decide_eq_true (by omega)]; rfl) | (rw [decide_eq_false (by omega)]; rfl)
          · first | rfl | assumption
    · refine rr_iload4 (pc := 56) B dX7_clash_56 ?_
      refine rr_if_gt 72 (pc := 58) B dX7_clash_58 (by decide) (by omega) (fun b9 => ?_) (fun b9 => ?_)
      · refine rr_iconst (z := 1) (pc := 72) B dX7_clash_72 ?_
        refine rr_goto 77 (pc := 73) B dX7_clash_73 (by decide) ?_
        refine rr_zreturn (pc := 77) B Br dX7_clash_77 (by omega) ⟨congrArg (fun z => some (aI z)) ?_, ?_⟩
        · unfold clB; first | (rw [decide_eq_true (by omega)]; rfl) | (rw [decide_eq_false (by omega)]; rfl)
        · first | rfl | assumption
      · refine rr_iload3 (pc := 61) B dX7_clash_61 ?_
        refine rr_iconst (z := 1) (pc := 62) B dX7_clash_62 ?_
        refine rr_icmp_ne 76 (pc := 63) B dX7_clash_63 (by decide) (by omega) (fun b10 => ?_) (fun b10 => ?_)
        · refine rr_iconst (z := 0) (pc := 76) B dX7_clash_76 ?_
          refine rr_zreturn (pc := 77) B Br dX7_clash_77 (by omega) ⟨congrArg (fun z => some (aI z)) ?_, ?_⟩
          · unfold clB; first | (rw [decide_eq_true (by omega)]; rfl) | (rw [decide_eq_false (by omega)]; rfl)
          · first | rfl | assumption
        · refine rr_iload4 (pc := 66) B dX7_clash_66 ?_
          refine rr_iconst (z := 2) (pc := 68) B dX7_clash_68 ?_
          refine rr_icmp_le 76 (pc := 69) B dX7_clash_69 (by decide) (by omega) (fun b11 => ?_) (fun b11 => ?_)
          · refine rr_iconst (z := 0) (pc := 76) B dX7_clash_76 ?_
            refine rr_zreturn (pc := 77) B Br dX7_clash_77 (by omega) ⟨congrArg (fun z => some (aI z)) ?_, ?_⟩
            · unfold clB; first | (rw [decide_eq_true (by omega)]; rfl) | (rw [decide_eq_false (by omega)]; rfl)
            · first | rfl | assumption
          · refine rr_iconst (z := 1) (pc := 72) B dX7_clash_72 ?_
            refine rr_goto 77 (pc := 73) B dX7_clash_73 (by decide) ?_
            refine rr_zreturn (pc := 77) B Br dX7_clash_77 (by omega) ⟨congrArg (fun z => some (aI z)) ?_, ?_⟩
            · unfold clB; first | (rw [decide_eq_true (by omega)]; rfl) | (rw [decide_eq_false (by omega)]; rfl)
            · first | rfl | assumption
  · refine rr_iconst (z := 0) (pc := 15) B dX7_clash_15 ?_
    refine rr_zreturn (pc := 16) B Br dX7_clash_16 (by omega) ⟨congrArg (fun z => some (aI z)) ?_, ?_⟩
    · unfold clB; first | (rw [decide_eq_true (by omega)]; rfl) | (rw [decide_eq_false (by omega)]; rfl)
    · first | rfl | assumption
set_option maxHeartbeats 4000000 in
set_option maxRecDepth 100000 in
theorem ct_X7_meetFoes (g : ax_G) (M : ax_M) (n : Int) (H0 : 0 ≤ n ∧ n < 10) : CT g md_X7_meetFoes 2 [aR 7, aI n] M (pV (mfM M n)) := by
  refine ct_intro 1 rfl rfl ?_
  intro X hg B Br
  subst hg
  show AW X 0 [some (aR 7), some (aI n), none] [] M
  refine rr_rg (fun G0 => ?_)
  have L : ∀ nn : Nat, (∀ (M1 : ax_M) (i : Int), (0 ≤ i ∧ i ≤ n) → (M1 = itI (mfS n) (ms M 43 n 0) i) → ((10 - i).toNat) < nn → AW X 9 [some (aR 7), some (aI n), some (aI i)] [] M1) ∧ True := by
    intro nn
    induction nn with
    | zero => exact ⟨by intros; omega, trivial⟩
    | succ nn ih =>
      refine ⟨?_, trivial⟩
      · intro M1 i K0 K1 hm
        refine rr_rg (fun G1 => ?_)
        refine rr_iload2 (pc := 9) B dX7_meetFoes_9 ?_
        refine rr_iload1 (pc := 10) B dX7_meetFoes_10 ?_
        refine rr_icmp_ge 53 (pc := 11) B dX7_meetFoes_11 (by decide) (by omega) (fun b1 => ?_) (fun b1 => ?_)
        · refine rr_return (pc := 53) B Br dX7_meetFoes_53 ⟨rfl, ?_⟩
          · rw [K1, show i = n by omega]; rfl
        · refine rr_aload0 (pc := 14) B dX7_meetFoes_14 ?_
          refine rr_iload2 (pc := 15) B dX7_meetFoes_15 ?_
          refine rr_iload1 (pc := 16) B dX7_meetFoes_16 ?_
          refine rc_VI2 (pc := 17) B dX7_meetFoes_17 vm_X7_clash lk_7_34 so_7 rfl (ct_X7_clash _ _ _ _  (by omega) (by omega)) (Nat.le_of_ble_eq_true rfl) (Nat.le_of_ble_eq_true rfl) ?_
          refine rr_if_eqB 47 (pc := 20) B dX7_meetFoes_20 (by decide) (fun b2 => ?_) (fun b2 => ?_)
          · refine rr_iinc2 (z := 1) (pc := 47) B dX7_meetFoes_47 rfl ?_
            refine rr_goto 9 (pc := 50) B dX7_meetFoes_50 (by decide) ?_
            refine ih.1 _ _ ?_ ?_ ?_
            · omega
            · rw [itI_s _ _ (by omega), ← K1]; unfold mfS; first | (rw [if_pos (by assumption)]; done) | (rw [if_neg (by simp_all)]; done)
            · omega
          · refine rr_aload0 (pc := 23) B dX7_meetFoes_23 ?_
            refine rr_getR (pc := 24) B dX7_meetFoes_24 fl_7_19 or_7_4 ?_
            refine rr_iload2 (pc := 27) B dX7_meetFoes_27 ?_
            refine rr_dup2 (pc := 28) B dX7_meetFoes_28 rfl rfl ?_
            refine rr_iaload (pc := 29) B dX7_meetFoes_29 sa_43 (by omega) (fun b3 => ?_)
            refine rr_iconst (z := 1) (pc := 30) B dX7_meetFoes_30 ?_
            refine rr_iload1 (pc := 31) B dX7_meetFoes_31 ?_
            refine rr_shl1 (pc := 32) B dX7_meetFoes_32 (by omega) (fun b4 => ?_)
            refine rr_orN 10 (pc := 33) B dX7_meetFoes_33 (by decide) (by have q2 := p2_le (a := n) (b := 9) (by omega); have q3 : p2 9 = 512 := rfl; omega) (fun b5 => ?_)
            refine rr_iastore (pc := 34) B dX7_meetFoes_34 sa_43 (by omega) (by simp only [show ((2 ^ 10 : Nat) : Int) = 1024 from rfl] at *; omega) ?_
            refine rr_aload0 (pc := 35) B dX7_meetFoes_35 ?_
            refine rr_getR (pc := 36) B dX7_meetFoes_36 fl_7_19 or_7_4 ?_
            refine rr_iload1 (pc := 39) B dX7_meetFoes_39 ?_
            refine rr_dup2 (pc := 40) B dX7_meetFoes_40 rfl rfl ?_
            refine rr_iaload (pc := 41) B dX7_meetFoes_41 sa_43 (by omega) (fun b6 => ?_)
            refine rr_iconst (z := 1) (pc := 42) B dX7_meetFoes_42 ?_
            refine rr_iload2 (pc := 43) B dX7_meetFoes_43 ?_
            refine rr_shl1 (pc := 44) B dX7_meetFoes_44 (by omega) (fun b7 => ?_)
            refine rr_orN 10 (pc := 45) B dX7_meetFoes_45 (by decide) (by have q2 := p2_le (a := i) (b := 9) (by omega); have q3 : p2 9 = 512 := rfl; omega) (fun b8 => ?_)
            refine rr_iastore (pc := 46) B dX7_meetFoes_46 sa_43 (by omega) (by simp only [show ((2 ^ 10 : Nat) : Int) = 1024 from rfl] at *; omega) ?_
            refine rr_iinc2 (z := 1) (pc := 47) B dX7_meetFoes_47 rfl ?_
            refine rr_goto 9 (pc := 50) B dX7_meetFoes_50 (by decide) ?_
            refine ih.1 _ _ ?_ ?_ ?_
            · omega
            · rw [itI_s _ _ (by omega), ← K1]; unfold mfS; first | (rw [if_pos (by assumption)]; done) | (rw [if_neg (by simp_all)]; done)
            · omega
  refine rr_aload0 (pc := 0) B dX7_meetFoes_0 ?_
  refine rr_getR (pc := 1) B dX7_meetFoes_1 fl_7_19 or_7_4 ?_
  refine rr_iload1 (pc := 4) B dX7_meetFoes_4 ?_
  refine rr_iconst (z := 0) (pc := 5) B dX7_meetFoes_5 ?_
  refine rr_iastore (pc := 6) B dX7_meetFoes_6 sa_43 (by omega) (by omega) ?_
  refine rr_iconst (z := 0) (pc := 7) B dX7_meetFoes_7 ?_
  refine rr_istore2 (pc := 8) B dX7_meetFoes_8 rfl ?_
  refine (L _).1 _ _ ?_ ?_ (Nat.lt_succ_self _)
  · omega
  · rfl
set_option maxHeartbeats 4000000 in
set_option maxRecDepth 100000 in
theorem ct_X7_add (g : ax_G) (M : ax_M) (p x h : Int) (H0 : 0 ≤ p ∧ p ≤ 7) (H1 : 0 ≤ x ∧ x ≤ 5) (H2 : 0 ≤ h ∧ h ≤ 7) (H3 : M 7 0 < 10) : CT g md_X7_add 3 [aR 7, aI p, aI x, aI h] M (pI (M 7 0) (mfM (sgM M p x h) (M 7 0))) := by
  refine ct_intro 1 rfl rfl ?_
  intro X hg B Br
  subst hg
  show AW X 0 [some (aR 7), some (aI p), some (aI x), some (aI h), none] [] M
  refine rr_rg (fun G0 => ?_)
  refine rr_aload0 (pc := 0) B dX7_add_0 ?_
  refine rr_getIE (pc := 1) B dX7_add_1 fl_7_22 ob_7_0 ((rfl : _ = M 7 0)) (fun b1 => ?_)
  refine rr_istore4 (pc := 4) B dX7_add_4 rfl ?_
  refine rr_iload4 (pc := 6) B dX7_add_6 ?_
  refine rr_bipush (z := 10) (pc := 8) B dX7_add_8 (by decide) ?_
  refine rr_icmp_ge 58 (pc := 10) B dX7_add_10 (by decide) (by omega) (fun b2 => absurd b2 (by omega)) (fun b2 => ?_)
  refine rr_aload0 (pc := 13) B dX7_add_13 ?_
  refine rr_getR (pc := 14) B dX7_add_14 fl_7_9 or_7_1 ?_
  refine rr_iload4 (pc := 17) B dX7_add_17 ?_
  refine rr_iload1 (pc := 19) B dX7_add_19 ?_
  refine rr_iastore (pc := 20) B dX7_add_20 sa_40 (by omega) (by omega) ?_
  refine rr_aload0 (pc := 21) B dX7_add_21 ?_
  refine rr_getR (pc := 22) B dX7_add_22 fl_7_13 or_7_2 ?_
  refine rr_iload4 (pc := 25) B dX7_add_25 ?_
  refine rr_iload2 (pc := 27) B dX7_add_27 ?_
  refine rr_iastore (pc := 28) B dX7_add_28 sa_41 (by omega) (by omega) ?_
  refine rr_aload0 (pc := 29) B dX7_add_29 ?_
  refine rr_getR (pc := 30) B dX7_add_30 fl_7_16 or_7_3 ?_
  refine rr_iload4 (pc := 33) B dX7_add_33 ?_
  refine rr_iload3 (pc := 35) B dX7_add_35 ?_
  refine rr_iastore (pc := 36) B dX7_add_36 sa_42 (by omega) (by omega) ?_
  refine rr_aload0 (pc := 37) B dX7_add_37 ?_
  refine rr_dup (pc := 38) B dX7_add_38 rfl ?_
  refine rr_getIE (pc := 39) B dX7_add_39 fl_7_22 ob_7_0 ((rfl : _ = M 7 0)) (fun b3 => ?_)
  refine rr_iconst (z := 1) (pc := 42) B dX7_add_42 ?_
  refine rr_iadd (pc := 43) B dX7_add_43 ?_
  refine rr_putI (pc := 44) B dX7_add_44 fl_7_22 ob_7_0 fi_7_0 (by omega) ?_
  refine rr_aload0 (pc := 47) B dX7_add_47 ?_
  refine rr_iconst (z := 1) (pc := 48) B dX7_add_48 ?_
  refine rr_putZ (pc := 49) B dX7_add_49 fl_7_26 ob_7_6 fi_7_6 (by omega) (by omega) ?_
  refine rr_aload0 (pc := 52) B dX7_add_52 ?_
  refine rr_iload4 (pc := 53) B dX7_add_53 ?_
  refine rc_VV1 (pc := 55) B dX7_add_55 vm_X7_meetFoes lk_7_30 so_7 rfl (ct_X7_meetFoes _ _ _  (by omega)) (Nat.le_of_ble_eq_true rfl) (Nat.le_of_ble_eq_true rfl) ?_
  refine rr_iload4 (pc := 58) B dX7_add_58 ?_
  refine rr_ireturn (pc := 60) B Br dX7_add_60 ⟨congrArg (fun z => some (aI z)) ?_, ?_⟩
  · rfl
  · rfl
set_option maxHeartbeats 4000000 in
set_option maxRecDepth 100000 in
theorem ct_X7_clear (g : ax_G) (M : ax_M) : CT g md_X7_clear 0 [aR 7] M (pI (M 7 0) (ms (ms M 7 0 0) 7 6 1)) := by
  refine ct_intro 1 rfl rfl ?_
  intro X hg B Br
  subst hg
  show AW X 0 [some (aR 7), none] [] M
  refine rr_rg (fun G0 => ?_)
  refine rr_aload0 (pc := 0) B dX7_clear_0 ?_
  refine rr_getI (pc := 1) B dX7_clear_1 fl_7_22 ob_7_0 (fun b1 => ?_)
  refine rr_istore1 (pc := 4) B dX7_clear_4 rfl ?_
  refine rr_aload0 (pc := 5) B dX7_clear_5 ?_
  refine rr_iconst (z := 0) (pc := 6) B dX7_clear_6 ?_
  refine rr_putI (pc := 7) B dX7_clear_7 fl_7_22 ob_7_0 fi_7_0 (by omega) ?_
  refine rr_aload0 (pc := 10) B dX7_clear_10 ?_
  refine rr_iconst (z := 1) (pc := 11) B dX7_clear_11 ?_
  refine rr_putZ (pc := 12) B dX7_clear_12 fl_7_26 ob_7_6 fi_7_6 (by omega) (by omega) ?_
  refine rr_iload1 (pc := 15) B dX7_clear_15 ?_
  refine rr_ireturn (pc := 16) B Br dX7_clear_16 ⟨congrArg (fun z => some (aI z)) ?_, ?_⟩
  · first | rfl | omega | (rw [decide_eq_true (by omega)]; rfl) | (rw [decide_eq_false (by omega)]; rfl) | (simp [*]; done)
  · first | rfl | assumption
set_option maxHeartbeats 4000000 in
set_option maxRecDepth 100000 in
theorem ct_X7_isPeaceful (g : ax_G) (M : ax_M) (kept : Int) (H0 : 0 ≤ kept ∧ kept < 1024) : CT g md_X7_isPeaceful 1 [aR 7, aI kept] M (pI (bi (pcB M kept)) (M)) := by
  refine ct_intro 1 rfl rfl ?_
  intro X hg B Br
  subst hg
  show AW X 0 [some (aR 7), some (aI kept), none] [] M
  refine rr_rg (fun G0 => ?_)
  have L : ∀ nn : Nat, (∀ (i : Int), (0 ≤ i ∧ i ≤ M 7 0) → (∀ j, 0 ≤ j → j < i → (!(tb kept j && decide (nA (M 43 j) kept ≠ 0))) = true) → ((10 - i).toNat) < nn → AW X 2 [some (aR 7), some (aI kept), some (aI i)] [] M) ∧ True := by
    intro nn
    induction nn with
    | zero => exact ⟨by intros; omega, trivial⟩
    | succ nn ih =>
      refine ⟨?_, trivial⟩
      · intro i K0 K1 hm
        refine rr_iload2 (pc := 2) B dX7_isPeaceful_2 ?_
        refine rr_aload0 (pc := 3) B dX7_isPeaceful_3 ?_
        refine rr_getI (pc := 4) B dX7_isPeaceful_4 fl_7_22 ob_7_0 (fun b1 => ?_)
        refine rr_icmp_ge 37 (pc := 7) B dX7_isPeaceful_7 (by decide) (by omega) (fun b2 => ?_) (fun b2 => ?_)
        · refine rr_iconst (z := 1) (pc := 37) B dX7_isPeaceful_37 ?_
          refine rr_zreturn (pc := 38) B Br dX7_isPeaceful_38 (by omega) ⟨congrArg (fun z => some (aI z)) ?_, ?_⟩
          · unfold pcB; rw [allB_t (by omega) (fun j h0 h1 => K1 j h0 (by omega))]; rfl
          · first | rfl | assumption
        · refine rr_iload1 (pc := 10) B dX7_isPeaceful_10 ?_
          refine rr_iload2 (pc := 11) B dX7_isPeaceful_11 ?_
          refine rc_NI2 (pc := 12) B dX7_isPeaceful_12 st_X8_hasBit lk_7_60 (ct_X8_hasBit _ _ _ _  (by omega) (by omega)) (Nat.le_of_ble_eq_true rfl) (Nat.le_of_ble_eq_true rfl) ?_
          refine rr_if_eqB 31 (pc := 15) B dX7_isPeaceful_15 (by decide) (fun b3 => ?_) (fun b3 => ?_)
          · refine rr_iinc2 (z := 1) (pc := 31) B dX7_isPeaceful_31 rfl ?_
            refine rr_goto 2 (pc := 34) B dX7_isPeaceful_34 (by decide) ?_
            refine ih.1 _ ?_ ?_ ?_
            · omega
            · intro j h0 h1
              rcases Int.lt_or_eq_of_le (show j ≤ i by omega) with q | q
              · exact K1 j h0 q
              · rw [q]; simp_all
            · omega
          · refine rr_aload0 (pc := 18) B dX7_isPeaceful_18 ?_
            refine rr_getR (pc := 19) B dX7_isPeaceful_19 fl_7_19 or_7_4 ?_
            refine rr_iload2 (pc := 22) B dX7_isPeaceful_22 ?_
            refine rr_iaload (pc := 23) B dX7_isPeaceful_23 sa_43 (by omega) (fun b4 => ?_)
            refine rr_iload1 (pc := 24) B dX7_isPeaceful_24 ?_
            refine rr_andN (pc := 25) B dX7_isPeaceful_25 (by omega) (fun b5 => ?_)
            refine rr_if_eq 31 (pc := 26) B dX7_isPeaceful_26 (by decide) (by omega) (fun b6 => ?_) (fun b6 => ?_)
            · refine rr_iinc2 (z := 1) (pc := 31) B dX7_isPeaceful_31 rfl ?_
              refine rr_goto 2 (pc := 34) B dX7_isPeaceful_34 (by decide) ?_
              refine ih.1 _ ?_ ?_ ?_
              · omega
              · intro j h0 h1
                rcases Int.lt_or_eq_of_le (show j ≤ i by omega) with q | q
                · exact K1 j h0 q
                · rw [q]; simp_all
              · omega
            · refine rr_iconst (z := 0) (pc := 29) B dX7_isPeaceful_29 ?_
              refine rr_zreturn (pc := 30) B Br dX7_isPeaceful_30 (by omega) ⟨congrArg (fun z => some (aI z)) ?_, ?_⟩
              · unfold pcB; rw [allB_f i (by omega) (by omega) (by simp_all)]; rfl
              · first | rfl | assumption
  refine rr_iconst (z := 0) (pc := 0) B dX7_isPeaceful_0 ?_
  refine rr_istore2 (pc := 1) B dX7_isPeaceful_1 rfl ?_
  refine (L _).1 _ ?_ ?_ (Nat.lt_succ_self _)
  · have := G0.at ob_7_0.2.1; omega
  · intro j h0 h1; omega
set_option maxHeartbeats 4000000 in
set_option maxRecDepth 100000 in
theorem ct_X7_searchFewest (g : ax_G) (M : ax_M) : CT g md_X7_searchFewest 2 [aR 7] M (pI ((shB M (p2 (M 7 0) - 1)).1) (M)) := by
  refine ct_intro 5 rfl rfl ?_
  intro X hg B Br
  subst hg
  show AW X 0 [some (aR 7), none, none, none, none, none] [] M
  refine rr_rg (fun G0 => ?_)
  have S10 := G0.at ob_7_0.2.1
  have P1 := p2_pos (M 7 0)
  have P10 : p2 (M 7 0) ≤ 1024 := by have := p2_le (a := M 7 0) (b := 10) (by omega); have e : p2 10 = 1024 := rfl; omega
  have L : ∀ nn : Nat, (∀ (f n b : Int) (w5 : Option ax_V), (0 ≤ b ∧ b ≤ p2 (M 7 0) - 1) → (f = (shB M b).1 ∧ n = (shB M b).2) → (0 ≤ n ∧ n ≤ 10) → ((1100 - b).toNat) < nn → AW X 19 [some (aR 7), some (aI (p2 (M 7 0) - 1)), some (aI f), some (aI n), some (aI b), w5] [] M) ∧ True := by
    intro nn
    induction nn with
    | zero => exact ⟨by intros; omega, trivial⟩
    | succ nn ih =>
      refine ⟨?_, trivial⟩
      · intro f n b w5 K0 K1 K2 hm
        refine rr_iload4 (pc := 19) B dX7_searchFewest_19 ?_
        refine rr_iload1 (pc := 21) B dX7_searchFewest_21 ?_
        refine rr_icmp_ge 63 (pc := 22) B dX7_searchFewest_22 (by decide) (by omega) (fun b1 => ?_) (fun b1 => ?_)
        · refine rr_iload2 (pc := 63) B dX7_searchFewest_63 ?_
          refine rr_ireturn (pc := 64) B Br dX7_searchFewest_64 ⟨congrArg (fun z => some (aI z)) ?_, ?_⟩
          · rw [K1.1, show b = p2 (M 7 0) - 1 by omega]
          · first | rfl | assumption
        · refine rr_iload4 (pc := 25) B dX7_searchFewest_25 ?_
          refine rc_SI1 (pc := 27) B dX7_searchFewest_27 st_J_bitCount lk_7_51 (ct_J_bitCount _ _ _  (by omega)) (Nat.le_of_ble_eq_true rfl) (Nat.le_of_ble_eq_true rfl) ?_
          refine rr_istore5 (pc := 30) B dX7_searchFewest_30 rfl ?_
          refine rr_iload5 (pc := 32) B dX7_searchFewest_32 ?_
          refine rr_iload3 (pc := 34) B dX7_searchFewest_34 ?_
          refine rr_icmp_ge 57 (pc := 35) B dX7_searchFewest_35 (by decide) (by have := on_r b; omega) (fun b2 => ?_) (fun b2 => ?_)
          · refine rr_iinc4 (z := 1) (pc := 57) B dX7_searchFewest_57 rfl ?_
            refine rr_goto 19 (pc := 60) B dX7_searchFewest_60 (by decide) ?_
            refine ih.1 _ _ _ _ ?_ ?_ ?_ ?_
            · omega
            · rw [show shB M (b + 1) = shS M b (shB M b) from itI_s _ _ (by omega)]
              unfold shS
              rw [← K1.2]
              first | (rw [if_pos ⟨by omega, by assumption⟩]; exact ⟨rfl, rfl⟩) | (rw [if_neg (by rintro ⟨q1, q2⟩; first | omega | (simp_all; done))]; exact K1)
            · have := on_r b; omega
            · omega
          · refine rr_aload0 (pc := 38) B dX7_searchFewest_38 ?_
            refine rr_iload1 (pc := 39) B dX7_searchFewest_39 ?_
            refine rr_iload4 (pc := 40) B dX7_searchFewest_40 ?_
            refine rr_iconst (z := (-1)) (pc := 42) B dX7_searchFewest_42 ?_
            refine rr_inot (pc := 43) B dX7_searchFewest_43 ?_
            refine rr_andD (pc := 44) B dX7_searchFewest_44 (by omega) (fun b3 => ?_)
            refine rc_VI1 (pc := 45) B dX7_searchFewest_45 vm_X7_isPeaceful lk_7_56 so_7 rfl (ct_X7_isPeaceful _ _ _  (by omega)) (Nat.le_of_ble_eq_true rfl) (Nat.le_of_ble_eq_true rfl) ?_
            refine rr_if_eqB 57 (pc := 48) B dX7_searchFewest_48 (by decide) (fun b4 => ?_) (fun b4 => ?_)
            · refine rr_iinc4 (z := 1) (pc := 57) B dX7_searchFewest_57 rfl ?_
              refine rr_goto 19 (pc := 60) B dX7_searchFewest_60 (by decide) ?_
              refine ih.1 _ _ _ _ ?_ ?_ ?_ ?_
              · omega
              · rw [show shB M (b + 1) = shS M b (shB M b) from itI_s _ _ (by omega)]
                unfold shS
                rw [← K1.2]
                first | (rw [if_pos ⟨by omega, by assumption⟩]; exact ⟨rfl, rfl⟩) | (rw [if_neg (by rintro ⟨q1, q2⟩; first | omega | (simp_all; done))]; exact K1)
              · have := on_r b; omega
              · omega
            · refine rr_iload4 (pc := 51) B dX7_searchFewest_51 ?_
              refine rr_istore2 (pc := 53) B dX7_searchFewest_53 rfl ?_
              refine rr_iload5 (pc := 54) B dX7_searchFewest_54 ?_
              refine rr_istore3 (pc := 56) B dX7_searchFewest_56 rfl ?_
              refine rr_iinc4 (z := 1) (pc := 57) B dX7_searchFewest_57 rfl ?_
              refine rr_goto 19 (pc := 60) B dX7_searchFewest_60 (by decide) ?_
              refine ih.1 _ _ _ _ ?_ ?_ ?_ ?_
              · omega
              · rw [show shB M (b + 1) = shS M b (shB M b) from itI_s _ _ (by omega)]
                unfold shS
                rw [← K1.2]
                first | (rw [if_pos ⟨by omega, by assumption⟩]; exact ⟨rfl, rfl⟩) | (rw [if_neg (by rintro ⟨q1, q2⟩; first | omega | (simp_all; done))]; exact K1)
              · have := on_r b; omega
              · omega
  refine rr_iconst (z := 1) (pc := 0) B dX7_searchFewest_0 ?_
  refine rr_aload0 (pc := 1) B dX7_searchFewest_1 ?_
  refine rr_getI (pc := 2) B dX7_searchFewest_2 fl_7_22 ob_7_0 (fun b1 => ?_)
  refine rr_shl1 (pc := 5) B dX7_searchFewest_5 (by omega) (fun b2 => ?_)
  refine rr_iconst (z := 1) (pc := 6) B dX7_searchFewest_6 ?_
  refine rr_isub (pc := 7) B dX7_searchFewest_7 ?_
  refine rr_istore1 (pc := 8) B dX7_searchFewest_8 rfl ?_
  refine rr_iload1 (pc := 9) B dX7_searchFewest_9 ?_
  refine rr_istore2 (pc := 10) B dX7_searchFewest_10 rfl ?_
  refine rr_aload0 (pc := 11) B dX7_searchFewest_11 ?_
  refine rr_getI (pc := 12) B dX7_searchFewest_12 fl_7_22 ob_7_0 (fun b3 => ?_)
  refine rr_istore3 (pc := 15) B dX7_searchFewest_15 rfl ?_
  refine rr_iconst (z := 0) (pc := 16) B dX7_searchFewest_16 ?_
  refine rr_istore4 (pc := 17) B dX7_searchFewest_17 rfl ?_
  refine (L _).1 _ _ _ _ ?_ ?_ ?_ (Nat.lt_succ_self _)
  · omega
  · exact ⟨rfl, rfl⟩
  · omega
set_option maxHeartbeats 4000000 in
set_option maxRecDepth 100000 in
theorem ct_X7_fewestFalse (g : ax_G) (M : ax_M) : CT g md_X7_fewestFalse 3 [aR 7] M (pI (if M 7 6 = 0 then M 7 5 else (shB M (p2 (M 7 0) - 1)).1) (if M 7 6 = 0 then M else ms (ms M 7 5 (shB M (p2 (M 7 0) - 1)).1) 7 6 0)) := by
  refine ct_intro 0 rfl rfl ?_
  intro X hg B Br
  subst hg
  show AW X 0 [some (aR 7)] [] M
  refine rr_rg (fun G0 => ?_)
  have SH := shB_r M (G0.at ob_7_0.2.1)
  refine rr_aload0 (pc := 0) B dX7_fewestFalse_0 ?_
  refine rr_getI (pc := 1) B dX7_fewestFalse_1 fl_7_26 ob_7_6 (fun b1 => ?_)
  refine rr_if_eq 20 (pc := 4) B dX7_fewestFalse_4 (by decide) (by omega) (fun b2 => ?_) (fun b2 => ?_)
  · refine rr_aload0 (pc := 20) B dX7_fewestFalse_20 ?_
    refine rr_getI (pc := 21) B dX7_fewestFalse_21 fl_7_48 ob_7_5 (fun b3 => ?_)
    refine rr_ireturn (pc := 24) B Br dX7_fewestFalse_24 ⟨congrArg (fun z => some (aI z)) ?_, ?_⟩
    · first | (rw [if_pos (by omega)]; done) | (rw [if_neg (by omega)]; rfl)
    · first | (rw [if_pos (by omega)]; done) | (rw [if_neg (by omega)]; done)
  · refine rr_aload0 (pc := 7) B dX7_fewestFalse_7 ?_
    refine rr_aload0 (pc := 8) B dX7_fewestFalse_8 ?_
    refine rc_VI0 (pc := 9) B dX7_fewestFalse_9 vm_X7_searchFewest lk_7_44 so_7 rfl (ct_X7_searchFewest _ _   ) (Nat.le_of_ble_eq_true rfl) (Nat.le_of_ble_eq_true rfl) ?_
    refine rr_putI (pc := 12) B dX7_fewestFalse_12 fl_7_48 ob_7_5 fi_7_5 (by omega) ?_
    refine rr_aload0 (pc := 15) B dX7_fewestFalse_15 ?_
    refine rr_iconst (z := 0) (pc := 16) B dX7_fewestFalse_16 ?_
    refine rr_putZ (pc := 17) B dX7_fewestFalse_17 fl_7_26 ob_7_6 fi_7_6 (by omega) (by omega) ?_
    refine rr_aload0 (pc := 20) B dX7_fewestFalse_20 ?_
    refine rr_getI (pc := 21) B dX7_fewestFalse_21 fl_7_48 ob_7_5 (fun b3 => ?_)
    refine rr_ireturn (pc := 24) B Br dX7_fewestFalse_24 ⟨congrArg (fun z => some (aI z)) ?_, ?_⟩
    · first | (rw [if_pos (by omega)]; done) | (rw [if_neg (by omega)]; rfl)
    · first | (rw [if_pos (by omega)]; done) | (rw [if_neg (by omega)]; done)
set_option maxHeartbeats 4000000 in
set_option maxRecDepth 100000 in
theorem ct_X8_nightChanged (g : ax_G) (M : ax_M) : CT g md_X8_nightChanged 0 [aR 8] M (pV (ms (ms M 8 9 1) 8 10 1)) := by
  refine ct_intro 0 rfl rfl ?_
  intro X hg B Br
  subst hg
  show AW X 0 [some (aR 8)] [] M
  refine rr_rg (fun G0 => ?_)
  refine rr_aload0 (pc := 0) B dX8_nightChanged_0 ?_
  refine rr_iconst (z := 1) (pc := 1) B dX8_nightChanged_1 ?_
  refine rr_putZ (pc := 2) B dX8_nightChanged_2 fl_8_67 ob_8_9 fi_8_9 (by omega) (by omega) ?_
  refine rr_aload0 (pc := 5) B dX8_nightChanged_5 ?_
  refine rr_iconst (z := 1) (pc := 6) B dX8_nightChanged_6 ?_
  refine rr_putZ (pc := 7) B dX8_nightChanged_7 fl_8_71 ob_8_10 fi_8_10 (by omega) (by omega) ?_
  refine rr_return (pc := 10) B Br dX8_nightChanged_10 ⟨rfl, ?_⟩
  · first | rfl | assumption
set_option maxHeartbeats 4000000 in
set_option maxRecDepth 100000 in
theorem ct_X8_lowestTerm (g : ax_G) (M : ax_M) (above below what : Int) (H0 : 0 ≤ above ∧ above ≤ below) (H1 : 0 < below ∧ below ≤ 65536) (H2 : 0 ≤ what ∧ what ≤ 1) : CT g md_X8_lowestTerm 0 [aI above, aI below, aI what] M (pL (lowV above below what) (M)) := by
  refine ct_intro 4 rfl rfl ?_
  intro X hg B Br
  subst hg
  show AW X 0 [some (aI above), some (aI below), some (aI what), none, none, none, none] [] M
  refine rr_rg (fun G0 => ?_)
  have L : ∀ nn : Nat, (∀ (c r k : Int) (w6 : Option ax_V), (0 ≤ r ∧ r ≤ c ∧ 0 < c ∧ c ≤ 65536) → (0 ≤ k ∧ k ≤ 64) → (c * r * p2 k ≤ 4294967296) → (Int.gcd c r = Int.gcd above below) → ((64 - k).toNat) < nn → AW X 8 [some (aI above), some (aI below), some (aI what), some (aI c), some (aI r), some (aI k), w6] [] M) ∧ True := by
    intro nn
    induction nn with
    | zero => exact ⟨by intros; omega, trivial⟩
    | succ nn ih =>
      refine ⟨?_, trivial⟩
      · intro c r k w6 K0 K1 K2 K3 hm
        refine rr_iload5 (pc := 8) B dX8_lowestTerm_8 ?_
        refine rr_bipush (z := 64) (pc := 10) B dX8_lowestTerm_10 (by decide) ?_
        refine rr_icmp_ge 39 (pc := 12) B dX8_lowestTerm_12 (by decide) (by omega) (fun b1 => ?_) (fun b1 => ?_)
        · have R0 : r = 0 := by
            rcases Int.lt_or_eq_of_le K0.1 with q | q
            · exfalso
              first | omega | exact eucl0 q K0.2.1 (by have z := K2; rw [show k = 64 by omega] at z; exact z)
            · exact q.symm
          have GC : ((Int.gcd above below : Nat) : Int) = c := by rw [← K3, R0, gcd_0 (by omega)]
          refine rr_iload3 (pc := 39) B dX8_lowestTerm_39 ?_
          refine rr_if_ne 55 (pc := 40) B dX8_lowestTerm_40 (by decide) (by omega) (fun b2 => ?_) (fun b2 => absurd b2 (by omega))
          refine rr_iload2 (pc := 55) B dX8_lowestTerm_55 ?_
          refine rr_if_ne 66 (pc := 56) B dX8_lowestTerm_56 (by decide) (by omega) (fun b3 => ?_) (fun b3 => ?_)
          · refine rr_iload1 (pc := 66) B dX8_lowestTerm_66 ?_
            refine rr_iload3 (pc := 67) B dX8_lowestTerm_67 ?_
            refine rr_idiv (pc := 68) B dX8_lowestTerm_68 (by omega) ?_
            refine rr_i2l (pc := 69) B dX8_lowestTerm_69 (by have := Int.ediv_nonneg (a := below) (b := c) (by omega) (by omega); have := Int.ediv_le_self (a := below) c (by omega); omega) ?_
            refine rr_lreturn (pc := 70) B Br dX8_lowestTerm_70 ⟨congrArg (fun z => some (aL z)) ?_, ?_⟩
            · unfold lowV; rw [GC]; repeat (first | rw [if_pos (by omega)] | rw [if_neg (by omega)])
            · first | rfl | assumption
          · refine rr_iload0 (pc := 59) B dX8_lowestTerm_59 ?_
            refine rr_iload3 (pc := 60) B dX8_lowestTerm_60 ?_
            refine rr_idiv (pc := 61) B dX8_lowestTerm_61 (by omega) ?_
            refine rr_i2l (pc := 62) B dX8_lowestTerm_62 (by have := Int.ediv_nonneg (a := above) (b := c) (by omega) (by omega); have := Int.ediv_le_self (a := above) c (by omega); omega) ?_
            refine rr_goto 70 (pc := 63) B dX8_lowestTerm_63 (by decide) ?_
            refine rr_lreturn (pc := 70) B Br dX8_lowestTerm_70 ⟨congrArg (fun z => some (aL z)) ?_, ?_⟩
            · unfold lowV; rw [GC]; repeat (first | rw [if_pos (by omega)] | rw [if_neg (by omega)])
            · first | rfl | assumption
        · refine rr_iload4 (pc := 15) B dX8_lowestTerm_15 ?_
          refine rr_if_eq 39 (pc := 17) B dX8_lowestTerm_17 (by decide) (by omega) (fun b2 => ?_) (fun b2 => ?_)
          · have R0 : r = 0 := by
              rcases Int.lt_or_eq_of_le K0.1 with q | q
              · exfalso
                first | omega | exact eucl0 q K0.2.1 (by have z := K2; rw [show k = 64 by omega] at z; exact z)
              · exact q.symm
            have GC : ((Int.gcd above below : Nat) : Int) = c := by rw [← K3, R0, gcd_0 (by omega)]
            refine rr_iload3 (pc := 39) B dX8_lowestTerm_39 ?_
            refine rr_if_ne 55 (pc := 40) B dX8_lowestTerm_40 (by decide) (by omega) (fun b3 => ?_) (fun b3 => absurd b3 (by omega))
            refine rr_iload2 (pc := 55) B dX8_lowestTerm_55 ?_
            refine rr_if_ne 66 (pc := 56) B dX8_lowestTerm_56 (by decide) (by omega) (fun b4 => ?_) (fun b4 => ?_)
            · refine rr_iload1 (pc := 66) B dX8_lowestTerm_66 ?_
              refine rr_iload3 (pc := 67) B dX8_lowestTerm_67 ?_
              refine rr_idiv (pc := 68) B dX8_lowestTerm_68 (by omega) ?_
              refine rr_i2l (pc := 69) B dX8_lowestTerm_69 (by have := Int.ediv_nonneg (a := below) (b := c) (by omega) (by omega); have := Int.ediv_le_self (a := below) c (by omega); omega) ?_
              refine rr_lreturn (pc := 70) B Br dX8_lowestTerm_70 ⟨congrArg (fun z => some (aL z)) ?_, ?_⟩
              · unfold lowV; rw [GC]; repeat (first | rw [if_pos (by omega)] | rw [if_neg (by omega)])
              · first | rfl | assumption
            · refine rr_iload0 (pc := 59) B dX8_lowestTerm_59 ?_
              refine rr_iload3 (pc := 60) B dX8_lowestTerm_60 ?_
              refine rr_idiv (pc := 61) B dX8_lowestTerm_61 (by omega) ?_
              refine rr_i2l (pc := 62) B dX8_lowestTerm_62 (by have := Int.ediv_nonneg (a := above) (b := c) (by omega) (by omega); have := Int.ediv_le_self (a := above) c (by omega); omega) ?_
              refine rr_goto 70 (pc := 63) B dX8_lowestTerm_63 (by decide) ?_
              refine rr_lreturn (pc := 70) B Br dX8_lowestTerm_70 ⟨congrArg (fun z => some (aL z)) ?_, ?_⟩
              · unfold lowV; rw [GC]; repeat (first | rw [if_pos (by omega)] | rw [if_neg (by omega)])
              · first | rfl | assumption
          · refine rr_iload3 (pc := 20) B dX8_lowestTerm_20 ?_
            refine rr_iload4 (pc := 21) B dX8_lowestTerm_21 ?_
            refine rr_irem (pc := 23) B dX8_lowestTerm_23 (by omega) ?_
            refine rr_istore6 (pc := 24) B dX8_lowestTerm_24 rfl ?_
            refine rr_iload4 (pc := 26) B dX8_lowestTerm_26 ?_
            refine rr_istore3 (pc := 28) B dX8_lowestTerm_28 rfl ?_
            refine rr_iload6 (pc := 29) B dX8_lowestTerm_29 ?_
            refine rr_istore4 (pc := 31) B dX8_lowestTerm_31 rfl ?_
            refine rr_iinc5 (z := 1) (pc := 33) B dX8_lowestTerm_33 rfl ?_
            refine rr_goto 8 (pc := 36) B dX8_lowestTerm_36 (by decide) ?_
            refine ih.1 _ _ _ _ ?_ ?_ ?_ ?_ ?_
            · have := Int.emod_nonneg c (b := r) (by omega); have := Int.emod_lt_of_pos c (b := r) (by omega); omega
            · omega
            · rw [p2_s (by omega)]; exact Int.le_trans (eucl (by omega) (by omega) (by have := p2_pos k; omega)) K2
            · rw [gcd_st (by omega) (by omega)]; exact K3
            · omega
  refine rr_iload1 (pc := 0) B dX8_lowestTerm_0 ?_
  refine rr_istore3 (pc := 1) B dX8_lowestTerm_1 rfl ?_
  refine rr_iload0 (pc := 2) B dX8_lowestTerm_2 ?_
  refine rr_istore4 (pc := 3) B dX8_lowestTerm_3 rfl ?_
  refine rr_iconst (z := 0) (pc := 5) B dX8_lowestTerm_5 ?_
  refine rr_istore5 (pc := 6) B dX8_lowestTerm_6 rfl ?_
  refine (L _).1 _ _ _ _ ?_ ?_ ?_ ?_ (Nat.lt_succ_self _)
  · omega
  · omega
  · have := mulB (A := 65536) (B := 65536) (a := below) (b := above) (by omega) (by omega); rw [show p2 0 = 1 from rfl]; omega
  · exact Int.gcd_comm _ _
