theorem wth_r (V : ax_M) (set : Int) (hn : 0 ≤ V 9 2 ∧ V 9 2 ≤ 8) (hV : ∀ d, 0 ≤ d → d < V 9 2 → 0 ≤ V 50 d ∧ V 50 d ≤ 9) : 0 ≤ wth V set ∧ wth V set ≤ 72 := by
  unfold wth
  have := itI_inv (f := fun d s => s + if tb set d = true then V 50 d else 0) (a := 0) (p := V 9 2) (fun i x => 0 ≤ x ∧ x ≤ 9 * i) hn.1 (by omega) (fun i x h0 h1 q => by
    have := hV i h0 h1
    show 0 ≤ x + (if tb set i = true then V 50 i else 0) ∧ x + (if tb set i = true then V 50 i else 0) ≤ _
    split <;> omega)
  omega
theorem askd_r (V : ax_M) (p h : Int) (hn : 0 ≤ V 9 2 ∧ V 9 2 ≤ 8) : 0 ≤ askd V p h ∧ askd V p h ≤ 8 := by
  unfold askd
  have := itI_inv (f := fun d n => n + if cm V d h ≠ -3 ∧ tb (cm V d h) p = true then 1 else 0) (a := 0) (p := V 9 2) (fun i x => 0 ≤ x ∧ x ≤ i) hn.1 (by omega) (fun i x h0 h1 q => by
    show 0 ≤ x + (if _ then 1 else 0) ∧ x + (if _ then 1 else 0) ≤ _
    split <;> omega)
  omega
theorem hrs_r (V : ax_M) (d : Int) : 0 ≤ hrs V d ∧ hrs V d < 256 := by
  unfold hrs
  have := itI_inv (f := fun h b => nO b (bi (decide (cm V d h ≠ -3)) * p2 h)) (a := 0) (p := 8) (fun i x => 0 ≤ x ∧ x < 256) (by decide) (by decide) (fun i x h0 h1 q => by
    have h2 := p2_le (a := i) (b := 7) (by omega)
    have h3 : p2 7 = 128 := rfl
    have h4 := p2_pos i
    refine nO_lt 8 q ⟨?_, ?_⟩
    · cases decide (cm V d i ≠ -3) <;> simp [bi] <;> omega
    · show _ < (256 : Int)
      cases decide (cm V d i ≠ -3) <;> simp [bi] <;> omega)
  exact this
theorem chV_r {n k : Int} (hn : 0 ≤ n ∧ n ≤ 8) (hk : 0 ≤ k ∧ k ≤ 8) : 0 ≤ chV n k ∧ chV n k ≤ 1000 := by
  unfold chV
  split
  · omega
  · have := chI_r (n := n) (k := k) (j := k) hn (by omega) (by omega)
    unfold chI at this
    omega
theorem chV_p {n k : Int} (hn : 0 ≤ n ∧ n ≤ 8) (hk : 0 ≤ k ∧ k ≤ n) : 1 ≤ chV n k ∧ chV n k ≤ 1000 := by
  unfold chV
  rw [if_neg (by omega)]
  have := chI_r (n := n) (k := k) (j := k) hn (by omega) (by omega)
  unfold chI at this
  omega
theorem ct_X9_faultOf (g : ax_G) (M : ax_M) (text : Int) (S : ax_M) (H0 : bs S M) (H1 : 0 ≤ text ∧ text ≤ 1) : CT g md_X9_faultOf 2 [aR 9, aI text] M (pIR (if text = 0 then qd S 0 7 else qr S 5 2) (fun M2 => bs S M2 ∧ frm exP M M2)) := by
  have b : ∀ M2, frm exP M M2 → bs S M2 ∧ frm exP M M2 := fun M2 h => ⟨bs_fr H0 h isB_P, h⟩
  rcases (show text = 0 ∨ text = 1 by omega) with rfl | rfl
  · exact CT.mono (ct_X9_faultOf0 g M 0 (S 45 0) (t0 S) (S 45 1) (t1 S) rfl (H0 45 0 rfl) (fun i _ _ => H0 46 _ rfl) (H0 45 1 rfl) (fun i _ _ => H0 46 _ rfl)) (fun r M' h => ⟨h.1, b M' (frm_mono h.2.2 exD_P)⟩)
  · exact CT.mono (ct_X9_faultOf1 g M 1 (S 45 0) (t0 S) (S 45 1) (t1 S) rfl (H0 45 0 rfl) (fun i _ _ => H0 46 _ rfl) (H0 45 1 rfl) (fun i _ _ => H0 46 _ rfl)) (fun r M' h => ⟨h.1, b M' (frm_mono h.2.2 exR_P)⟩)
set_option maxHeartbeats 4000000 in
set_option maxRecDepth 100000 in
theorem ct_X9_fault (g : ax_G) (M : ax_M) (x : Int) (S : ax_M) (H0 : bs S M) (H1 : SI S) (H2 : -2147483648 ≤ x ∧ x ≤ 2147483647) : CT g md_X9_fault 3 [aR 9, aI x] M (pIR (vFault S x) (fun M2 => bs (S) M2 ∧ co M M2)) := by
  refine ct_intro 0 rfl rfl ?_
  intro X hg B Br
  subst hg
  show AW X 0 [some (aR 9), some (aI x)] [] M
  refine rr_rg (fun G0 => ?_)
  have HB := H0
  refine rr_iload1 (pc := 0) B dX9_fault_0 ?_
  refine rr_iconst (z := 0) (pc := 1) B dX9_fault_1 ?_
  refine rr_iconst (z := 1) (pc := 2) B dX9_fault_2 ?_
  refine rc_SI3 (pc := 3) B dX9_fault_3 st_X9_in lk_9_103 (ct_X9_in _ _ _ _ _  (by omega)) (Nat.le_of_ble_eq_true rfl) (Nat.le_of_ble_eq_true rfl) ?_
  refine rr_if_eqB 17 (pc := 6) B dX9_fault_6 (by decide) (fun b1 => ?_) (fun b1 => ?_)
  · replace b1 := of_decide_eq_false b1
    refine rr_bipush (z := (-2)) (pc := 17) B dX9_fault_17 (by decide) ?_
    refine rr_ireturn (pc := 19) B Br dX9_fault_19 ⟨congrArg (fun z => some (aI z)) ?_, ?_⟩
    · unfold vFault; first | exact (if_pos (by omega)).symm | exact (if_neg (by omega)).symm
    · first | exact ⟨b2.1, co_P b2.2⟩ | exact ⟨H0, co_rfl M⟩
  · replace b1 := of_decide_eq_true b1
    refine rr_aload0 (pc := 9) B dX9_fault_9 ?_
    refine rr_iload1 (pc := 10) B dX9_fault_10 ?_
    refine rc_VIR1 (pc := 11) B dX9_fault_11 vm_X9_faultOf lk_9_136 so_9 rfl (ct_X9_faultOf _ _ _ _ (by exact H0) (by omega)) (Nat.le_of_ble_eq_true rfl) (Nat.le_of_ble_eq_true rfl) (fun Mb2 b2 => ?_)
    refine rr_goto 19 (pc := 14) B dX9_fault_14 (by decide) ?_
    refine rr_ireturn (pc := 19) B Br dX9_fault_19 ⟨congrArg (fun z => some (aI z)) ?_, ?_⟩
    · unfold vFault; first | exact (if_pos (by omega)).symm | exact (if_neg (by omega)).symm
    · first | exact ⟨b2.1, co_P b2.2⟩ | exact ⟨H0, co_rfl M⟩
set_option maxHeartbeats 4000000 in
set_option maxRecDepth 100000 in
theorem ct_X9_forget (g : ax_G) (M : ax_M) (w : Int) (S : ax_M) (H0 : bs S M) (H1 : SI S) (H2 : -2147483648 ≤ w ∧ w ≤ 2147483647) : CT g md_X9_forget 1 [aR 9, aI w] M (pIR (vForg S w) (fun M2 => bs (sForg S w) M2 ∧ co M M2)) := by
  refine ct_intro 1 rfl rfl ?_
  intro X hg B Br
  subst hg
  show AW X 0 [some (aR 9), some (aI w), none] [] M
  refine rr_rg (fun G0 => ?_)
  have HB := H0
  refine rr_iload1 (pc := 0) B dX9_forget_0 ?_
  refine rr_iconst (z := 0) (pc := 1) B dX9_forget_1 ?_
  refine rr_iconst (z := 1) (pc := 2) B dX9_forget_2 ?_
  refine rc_SI3 (pc := 3) B dX9_forget_3 st_X9_in lk_9_103 (ct_X9_in _ _ _ _ _  (by omega)) (Nat.le_of_ble_eq_true rfl) (Nat.le_of_ble_eq_true rfl) ?_
  refine rr_if_neB 12 (pc := 6) B dX9_forget_6 (by decide) (fun b1 => ?_) (fun b1 => ?_)
  · replace b1 := of_decide_eq_true b1
    refine rr_iload1 (pc := 12) B dX9_forget_12 ?_
    refine rr_if_ne 23 (pc := 13) B dX9_forget_13 (by decide) (by omega) (fun b2 => ?_) (fun b2 => ?_)
    · refine rr_aload0 (pc := 23) B dX9_forget_23 ?_
      refine rr_getIE (pc := 24) B dX9_forget_24 fl_9_255 ob_9_30 (HB 9 _ rfl) (fun b3 => ?_)
      refine rr_istore2 (pc := 27) B dX9_forget_27 rfl ?_
      refine rr_aload0 (pc := 28) B dX9_forget_28 ?_
      refine rr_iload1 (pc := 29) B dX9_forget_29 ?_
      refine rr_if_ne 37 (pc := 30) B dX9_forget_30 (by decide) (by omega) (fun b4 => ?_) (fun b4 => absurd b4 (by omega))
      refine rr_aload0 (pc := 37) B dX9_forget_37 ?_
      refine rr_getIE (pc := 38) B dX9_forget_38 fl_9_243 ob_9_26 (HB 9 _ rfl) (fun b5 => ?_)
      refine rr_putI (pc := 41) B dX9_forget_41 fl_9_243 ob_9_26 fi_9_26 (by omega) ?_
      refine rr_aload0 (pc := 44) B dX9_forget_44 ?_
      refine rr_iload1 (pc := 45) B dX9_forget_45 ?_
      refine rr_iconst (z := 1) (pc := 46) B dX9_forget_46 ?_
      refine rr_icmp_ne 54 (pc := 47) B dX9_forget_47 (by decide) (by omega) (fun b6 => ?_) (fun b6 => ?_)
      · refine rr_aload0 (pc := 54) B dX9_forget_54 ?_
        refine rr_getIE (pc := 55) B dX9_forget_55 fl_9_255 ob_9_30 (HB 9 _ rfl) (fun b7 => ?_)
        refine rr_putI (pc := 58) B dX9_forget_58 fl_9_255 ob_9_30 fi_9_30 (by omega) ?_
        refine rr_iload2 (pc := 61) B dX9_forget_61 ?_
        refine rr_ireturn (pc := 62) B Br dX9_forget_62 ⟨congrArg (fun z => some (aI z)) ?_, ?_⟩
        · first | (exfalso; omega) | (unfold vForg; repeat (first | rw [if_pos (by omega)] | rw [if_neg (by omega)]))
        · unfold sForg; repeat (first | rw [if_pos (by omega)] | rw [if_neg (by omega)])
          first
            | (exfalso; omega)
            | exact ⟨H0, co_rfl M⟩
            | refine ⟨?_, co_ms (co_ms (co_rfl M) (by decide)) (by decide)⟩
              intro k i e
              have w0 := H0 k i e
              have w1 : M 9 26 = S 9 26 := H0 9 26 rfl
              have w2 : M 9 30 = S 9 30 := H0 9 30 rfl
              simp only [ms]
              repeat' split
              all_goals (first | rfl | exact w0 | (simp_all; done) | omega)
      · refine rr_iconst (z := 0) (pc := 50) B dX9_forget_50 ?_
        refine rr_goto 58 (pc := 51) B dX9_forget_51 (by decide) ?_
        refine rr_putI (pc := 58) B dX9_forget_58 fl_9_255 ob_9_30 fi_9_30 (by omega) ?_
        refine rr_iload2 (pc := 61) B dX9_forget_61 ?_
        refine rr_ireturn (pc := 62) B Br dX9_forget_62 ⟨congrArg (fun z => some (aI z)) ?_, ?_⟩
        · first | (exfalso; omega) | (unfold vForg; repeat (first | rw [if_pos (by omega)] | rw [if_neg (by omega)]))
        · unfold sForg; repeat (first | rw [if_pos (by omega)] | rw [if_neg (by omega)])
          first
            | (exfalso; omega)
            | exact ⟨H0, co_rfl M⟩
            | refine ⟨?_, co_ms (co_ms (co_rfl M) (by decide)) (by decide)⟩
              intro k i e
              have w0 := H0 k i e
              have w1 : M 9 26 = S 9 26 := H0 9 26 rfl
              have w2 : M 9 30 = S 9 30 := H0 9 30 rfl
              simp only [ms]
              repeat' split
              all_goals (first | rfl | exact w0 | (simp_all; done) | omega)
    · refine rr_aload0 (pc := 16) B dX9_forget_16 ?_
      refine rr_getIE (pc := 17) B dX9_forget_17 fl_9_243 ob_9_26 (HB 9 _ rfl) (fun b3 => ?_)
      refine rr_goto 27 (pc := 20) B dX9_forget_20 (by decide) ?_
      refine rr_istore2 (pc := 27) B dX9_forget_27 rfl ?_
      refine rr_aload0 (pc := 28) B dX9_forget_28 ?_
      refine rr_iload1 (pc := 29) B dX9_forget_29 ?_
      refine rr_if_ne 37 (pc := 30) B dX9_forget_30 (by decide) (by omega) (fun b4 => absurd b4 (by omega)) (fun b4 => ?_)
      refine rr_iconst (z := 0) (pc := 33) B dX9_forget_33 ?_
      refine rr_goto 41 (pc := 34) B dX9_forget_34 (by decide) ?_
      refine rr_putI (pc := 41) B dX9_forget_41 fl_9_243 ob_9_26 fi_9_26 (by omega) ?_
      refine rr_aload0 (pc := 44) B dX9_forget_44 ?_
      refine rr_iload1 (pc := 45) B dX9_forget_45 ?_
      refine rr_iconst (z := 1) (pc := 46) B dX9_forget_46 ?_
      refine rr_icmp_ne 54 (pc := 47) B dX9_forget_47 (by decide) (by omega) (fun b5 => ?_) (fun b5 => absurd b5 (by omega))
      refine rr_aload0 (pc := 54) B dX9_forget_54 ?_
      refine rr_getIE (pc := 55) B dX9_forget_55 fl_9_255 ob_9_30 (HB 9 _ rfl) (fun b6 => ?_)
      refine rr_putI (pc := 58) B dX9_forget_58 fl_9_255 ob_9_30 fi_9_30 (by omega) ?_
      refine rr_iload2 (pc := 61) B dX9_forget_61 ?_
      refine rr_ireturn (pc := 62) B Br dX9_forget_62 ⟨congrArg (fun z => some (aI z)) ?_, ?_⟩
      · first | (exfalso; omega) | (unfold vForg; repeat (first | rw [if_pos (by omega)] | rw [if_neg (by omega)]))
      · unfold sForg; repeat (first | rw [if_pos (by omega)] | rw [if_neg (by omega)])
        first
          | (exfalso; omega)
          | exact ⟨H0, co_rfl M⟩
          | refine ⟨?_, co_ms (co_ms (co_rfl M) (by decide)) (by decide)⟩
            intro k i e
            have w0 := H0 k i e
            have w1 : M 9 26 = S 9 26 := H0 9 26 rfl
            have w2 : M 9 30 = S 9 30 := H0 9 30 rfl
            simp only [ms]
            repeat' split
            all_goals (first | rfl | exact w0 | (simp_all; done) | omega)
  · replace b1 := of_decide_eq_false b1
    refine rr_bipush (z := (-2)) (pc := 9) B dX9_forget_9 (by decide) ?_
    refine rr_ireturn (pc := 11) B Br dX9_forget_11 ⟨congrArg (fun z => some (aI z)) ?_, ?_⟩
    · first | (exfalso; omega) | (unfold vForg; repeat (first | rw [if_pos (by omega)] | rw [if_neg (by omega)]))
    · unfold sForg; repeat (first | rw [if_pos (by omega)] | rw [if_neg (by omega)])
      first
        | (exfalso; omega)
        | exact ⟨H0, co_rfl M⟩
        | refine ⟨?_, co_ms (co_ms (co_rfl M) (by decide)) (by decide)⟩
          intro k i e
          have w0 := H0 k i e
          have w1 : M 9 26 = S 9 26 := H0 9 26 rfl
          have w2 : M 9 30 = S 9 30 := H0 9 30 rfl
          simp only [ms]
          repeat' split
          all_goals (first | rfl | exact w0 | (simp_all; done) | omega)
set_option maxHeartbeats 4000000 in
set_option maxRecDepth 100000 in
theorem ct_X9_allDeeds (g : ax_G) (M : ax_M) (S : ax_M) (H0 : bs S M) : CT g md_X9_allDeeds 4 [aR 9] M (pIR (p2 (vw S 9 2) - 1) (fun M2 => rdM S M2 ∧ frm exP M M2)) := by
  refine ct_intro 0 rfl rfl ?_
  intro X hg B Br
  subst hg
  show AW X 0 [some (aR 9)] [] M
  refine rr_rg (fun G0 => ?_)
  refine rr_aload0 (pc := 0) B dX9_allDeeds_0 ?_
  refine rc_VVR0 (pc := 1) B dX9_allDeeds_1 vm_X9_reads lk_9_139 so_9 rfl (ct_X9_reads _ _  _ (by exact H0)) (Nat.le_of_ble_eq_true rfl) (Nat.le_of_ble_eq_true rfl) (fun Mb1 b1 => ?_)
  refine rr_iconst (z := 1) (pc := 4) B dX9_allDeeds_4 ?_
  refine rr_aload0 (pc := 5) B dX9_allDeeds_5 ?_
  refine rr_getIE (pc := 6) B dX9_allDeeds_6 fl_9_107 ob_9_2 (b1.1.1 9 _ (Or.inl rfl)) (fun b2 => ?_)
  refine rr_shl1 (pc := 9) B dX9_allDeeds_9 (by omega) (fun b3 => ?_)
  refine rr_iconst (z := 1) (pc := 10) B dX9_allDeeds_10 ?_
  refine rr_isub (pc := 11) B dX9_allDeeds_11 ?_
  refine rr_ireturn (pc := 12) B Br dX9_allDeeds_12 ⟨congrArg (fun z => some (aI z)) ?_, ?_⟩
  · rfl
  · exact b1
set_option maxHeartbeats 4000000 in
set_option maxRecDepth 100000 in
theorem ct_X9_spared (g : ax_G) (M : ax_M) (x : Int) (S : ax_M) (H0 : bs S M) (H1 : SI S) (H2 : -2147483648 ≤ x ∧ x ≤ 2147483647) : CT g md_X9_spared 5 [aR 9, aI x] M (pIR (vSpar S x) (fun M2 => bs (S) M2 ∧ co M M2)) := by
  refine ct_intro 0 rfl rfl ?_
  intro X hg B Br
  subst hg
  show AW X 0 [some (aR 9), some (aI x)] [] M
  refine rr_rg (fun G0 => ?_)
  have HB := H0
  refine rr_iload1 (pc := 0) B dX9_spared_0 ?_
  refine rr_iconst (z := 0) (pc := 1) B dX9_spared_1 ?_
  refine rr_aload0 (pc := 2) B dX9_spared_2 ?_
  refine rc_VIR0 (pc := 3) B dX9_spared_3 vm_X9_allDeeds lk_9_258 so_9 rfl (ct_X9_allDeeds _ _  _ (by exact H0)) (Nat.le_of_ble_eq_true rfl) (Nat.le_of_ble_eq_true rfl) (fun Mb1 b1 => ?_)
  refine rr_rg (fun G1 => ?_)
  have N8 : 0 ≤ vw S 9 2 ∧ vw S 9 2 ≤ 8 := by have := G1.at ob_9_2.2.1; rw [b1.1.1 9 2 (Or.inl rfl)] at this; exact this
  have P8 : 1 ≤ p2 (vw S 9 2) ∧ p2 (vw S 9 2) ≤ 256 := ⟨p2_pos _, by have q2 := p2_le (a := vw S 9 2) (b := 8) N8.2; have q3 : p2 8 = 256 := rfl; omega⟩
  refine rc_SI3 (pc := 6) B dX9_spared_6 st_X9_in lk_9_103 (ct_X9_in _ _ _ _ _  (by omega)) (Nat.le_of_ble_eq_true rfl) (Nat.le_of_ble_eq_true rfl) ?_
  refine rr_if_eqB 20 (pc := 9) B dX9_spared_9 (by decide) (fun b2 => ?_) (fun b2 => ?_)
  · replace b2 := of_decide_eq_false b2
    refine rr_bipush (z := (-2)) (pc := 20) B dX9_spared_20 (by decide) ?_
    refine rr_ireturn (pc := 22) B Br dX9_spared_22 ⟨congrArg (fun z => some (aI z)) ?_, ?_⟩
    · unfold vSpar; first | exact (if_pos (by omega)).symm | exact (if_neg (by omega)).symm
    · exact ⟨b1.1.2.1, co_P b1.2⟩
  · replace b2 := of_decide_eq_true b2
    refine rr_aload0 (pc := 12) B dX9_spared_12 ?_
    refine rr_iload1 (pc := 13) B dX9_spared_13 ?_
    refine rc_VI1 (pc := 14) B dX9_spared_14 vm_X9_sparedOf lk_9_261 so_9 rfl (ct_X9_sparedOf _ _ _ (vw S) (b1.1.1) (by omega)) (Nat.le_of_ble_eq_true rfl) (Nat.le_of_ble_eq_true rfl) ?_
    refine rr_goto 22 (pc := 17) B dX9_spared_17 (by decide) ?_
    refine rr_ireturn (pc := 22) B Br dX9_spared_22 ⟨congrArg (fun z => some (aI z)) ?_, ?_⟩
    · unfold vSpar; first | exact (if_pos (by omega)).symm | exact (if_neg (by omega)).symm
    · exact ⟨b1.1.2.1, co_P b1.2⟩
set_option maxHeartbeats 4000000 in
set_option maxRecDepth 100000 in
theorem ct_X9_bestNow (g : ax_G) (M : ax_M) (S : ax_M) (H0 : bs S M) : CT g md_X9_bestNow 4 [aR 9] M (pIR (vBest S) (fun M2 => rdM S M2 ∧ frm exP M M2)) := by
  refine ct_intro 4 rfl rfl ?_
  intro X hg B Br
  subst hg
  show AW X 0 [some (aR 9), none, none, none, none] [] M
  refine rr_rg (fun G0 => ?_)
  have L : ∀ nn : Nat, (∀ (M1 : ax_M) (b m d : Int) (w4 : Option ax_V), (rdM S M1) → (frm exP M M1) → (0 ≤ d ∧ d ≤ vw S 9 2) → (b = (beB (vw S) d).1 ∧ m = (beB (vw S) d).2) → (-1 ≤ b ∧ b ≤ 7 ∧ 0 ≤ m ∧ m ≤ 1000) → ((8 - d).toNat) < nn → AW X 10 [some (aR 9), some (aI b), some (aI m), some (aI d), w4] [] M1) ∧ True := by
    intro nn
    induction nn with
    | zero => exact ⟨by intros; omega, trivial⟩
    | succ nn ih =>
      refine ⟨?_, trivial⟩
      · intro M1 b m d w4 K0 K1 K2 K3 K4 hm
        refine rr_rg (fun G1 => ?_)
        have N8 : 0 ≤ vw S 9 2 ∧ vw S 9 2 ≤ 8 := by have := G1.at ob_9_2.2.1; rw [K0.1 9 2 (Or.inl rfl)] at this; exact this
        refine rr_iload3 (pc := 10) B dX9_bestNow_10 ?_
        refine rr_aload0 (pc := 11) B dX9_bestNow_11 ?_
        refine rr_getIE (pc := 12) B dX9_bestNow_12 fl_9_107 ob_9_2 (K0.1 9 _ (Or.inl rfl)) (fun b1 => ?_)
        refine rr_icmp_ge 65 (pc := 15) B dX9_bestNow_15 (by decide) (by omega) (fun b2 => ?_) (fun b2 => ?_)
        · refine rr_iload1 (pc := 65) B dX9_bestNow_65 ?_
          refine rr_ireturn (pc := 66) B Br dX9_bestNow_66 ⟨congrArg (fun z => some (aI z)) ?_, ?_⟩
          · unfold vBest; rw [K3.1, show d = vw S 9 2 by omega]
          · exact ⟨K0, K1⟩
        · refine rr_aload0 (pc := 18) B dX9_bestNow_18 ?_
          refine rr_getR (pc := 19) B dX9_bestNow_19 fl_9_25 or_9_6 ?_
          refine rr_iload3 (pc := 22) B dX9_bestNow_22 ?_
          refine rr_ialoadE (pc := 23) B dX9_bestNow_23 sa_50 (by omega) (K0.1 50 _ ⟨by omega, by omega⟩) (fun b3 => ?_)
          refine rr_aload0 (pc := 24) B dX9_bestNow_24 ?_
          refine rr_iconst (z := 1) (pc := 25) B dX9_bestNow_25 ?_
          refine rr_iload3 (pc := 26) B dX9_bestNow_26 ?_
          refine rr_shl1 (pc := 27) B dX9_bestNow_27 (by omega) (fun b4 => ?_)
          refine rc_VI1 (pc := 28) B dX9_bestNow_28 vm_X9_sparedOf lk_9_261 so_9 rfl (ct_X9_sparedOf _ _ _ (vw S) (K0.1) (by have q2 := p2_le (a := d) (b := 7) (by omega); have q3 : p2 7 = 128 := rfl; omega)) (Nat.le_of_ble_eq_true rfl) (Nat.le_of_ble_eq_true rfl) ?_
          refine rr_iadd (pc := 31) B dX9_bestNow_31 ?_
          refine rr_istore4 (pc := 32) B dX9_bestNow_32 rfl ?_
          refine rr_iload4 (pc := 34) B dX9_bestNow_34 ?_
          refine rr_iload2 (pc := 36) B dX9_bestNow_36 ?_
          refine rr_icmp_le 44 (pc := 37) B dX9_bestNow_37 (by decide) (by have := wth_r (vw S) (nD (rch (vw S) (p2 d)) (p2 d)) N8 (fun j h0 h1 => by have := G1.at (sa_50.2.2 j); rw [K0.1 50 j ⟨h0, h1⟩] at this; exact this); unfold spV at *; omega) (fun b5 => ?_) (fun b5 => ?_)
          · refine rr_iload1 (pc := 44) B dX9_bestNow_44 ?_
            refine rr_istore1 (pc := 45) B dX9_bestNow_45 rfl ?_
            refine rr_iload4 (pc := 46) B dX9_bestNow_46 ?_
            refine rr_iload2 (pc := 48) B dX9_bestNow_48 ?_
            refine rr_icmp_le 57 (pc := 49) B dX9_bestNow_49 (by decide) (by have := wth_r (vw S) (nD (rch (vw S) (p2 d)) (p2 d)) N8 (fun j h0 h1 => by have := G1.at (sa_50.2.2 j); rw [K0.1 50 j ⟨h0, h1⟩] at this; exact this); unfold spV at *; omega) (fun b6 => ?_) (fun b6 => ?_)
            · refine rr_iload2 (pc := 57) B dX9_bestNow_57 ?_
              refine rr_istore2 (pc := 58) B dX9_bestNow_58 rfl ?_
              refine rr_iinc3 (z := 1) (pc := 59) B dX9_bestNow_59 rfl ?_
              refine rr_goto 10 (pc := 62) B dX9_bestNow_62 (by decide) ?_
              refine ih.1 _ _ _ _ _ ?_ ?_ ?_ ?_ ?_ ?_
              · first | exact b1.1 | exact K0
              · first | exact b1.2 | exact K1
              · omega
              · unfold beB; rw [itI_s _ _ (by omega)]
                show _ = (beS (vw S) d (beB (vw S) d)).1 ∧ _ = (beS (vw S) d (beB (vw S) d)).2
                unfold beS; rw [← K3.2]
                first | (exfalso; omega) | (rw [if_pos (by omega)]; exact ⟨rfl, rfl⟩) | (rw [if_neg (by omega)]; exact K3)
              · have := wth_r (vw S) (nD (rch (vw S) (p2 d)) (p2 d)) N8 (fun j h0 h1 => by have := G1.at (sa_50.2.2 j); rw [K0.1 50 j ⟨h0, h1⟩] at this; exact this); unfold spV at *; omega
              · omega
            · refine rr_iload4 (pc := 52) B dX9_bestNow_52 ?_
              refine rr_goto 58 (pc := 54) B dX9_bestNow_54 (by decide) ?_
              refine rr_istore2 (pc := 58) B dX9_bestNow_58 rfl ?_
              refine rr_iinc3 (z := 1) (pc := 59) B dX9_bestNow_59 rfl ?_
              refine rr_goto 10 (pc := 62) B dX9_bestNow_62 (by decide) ?_
              refine ih.1 _ _ _ _ _ ?_ ?_ ?_ ?_ ?_ ?_
              · first | exact b1.1 | exact K0
              · first | exact b1.2 | exact K1
              · omega
              · unfold beB; rw [itI_s _ _ (by omega)]
                show _ = (beS (vw S) d (beB (vw S) d)).1 ∧ _ = (beS (vw S) d (beB (vw S) d)).2
                unfold beS; rw [← K3.2]
                first | (exfalso; omega) | (rw [if_pos (by omega)]; exact ⟨rfl, rfl⟩) | (rw [if_neg (by omega)]; exact K3)
              · have := wth_r (vw S) (nD (rch (vw S) (p2 d)) (p2 d)) N8 (fun j h0 h1 => by have := G1.at (sa_50.2.2 j); rw [K0.1 50 j ⟨h0, h1⟩] at this; exact this); unfold spV at *; omega
              · omega
          · refine rr_iload3 (pc := 40) B dX9_bestNow_40 ?_
            refine rr_goto 45 (pc := 41) B dX9_bestNow_41 (by decide) ?_
            refine rr_istore1 (pc := 45) B dX9_bestNow_45 rfl ?_
            refine rr_iload4 (pc := 46) B dX9_bestNow_46 ?_
            refine rr_iload2 (pc := 48) B dX9_bestNow_48 ?_
            refine rr_icmp_le 57 (pc := 49) B dX9_bestNow_49 (by decide) (by have := wth_r (vw S) (nD (rch (vw S) (p2 d)) (p2 d)) N8 (fun j h0 h1 => by have := G1.at (sa_50.2.2 j); rw [K0.1 50 j ⟨h0, h1⟩] at this; exact this); unfold spV at *; omega) (fun b6 => ?_) (fun b6 => ?_)
            · refine rr_iload2 (pc := 57) B dX9_bestNow_57 ?_
              refine rr_istore2 (pc := 58) B dX9_bestNow_58 rfl ?_
              refine rr_iinc3 (z := 1) (pc := 59) B dX9_bestNow_59 rfl ?_
              refine rr_goto 10 (pc := 62) B dX9_bestNow_62 (by decide) ?_
              refine ih.1 _ _ _ _ _ ?_ ?_ ?_ ?_ ?_ ?_
              · first | exact b1.1 | exact K0
              · first | exact b1.2 | exact K1
              · omega
              · unfold beB; rw [itI_s _ _ (by omega)]
                show _ = (beS (vw S) d (beB (vw S) d)).1 ∧ _ = (beS (vw S) d (beB (vw S) d)).2
                unfold beS; rw [← K3.2]
                first | (exfalso; omega) | (rw [if_pos (by omega)]; exact ⟨rfl, rfl⟩) | (rw [if_neg (by omega)]; exact K3)
              · have := wth_r (vw S) (nD (rch (vw S) (p2 d)) (p2 d)) N8 (fun j h0 h1 => by have := G1.at (sa_50.2.2 j); rw [K0.1 50 j ⟨h0, h1⟩] at this; exact this); unfold spV at *; omega
              · omega
            · refine rr_iload4 (pc := 52) B dX9_bestNow_52 ?_
              refine rr_goto 58 (pc := 54) B dX9_bestNow_54 (by decide) ?_
              refine rr_istore2 (pc := 58) B dX9_bestNow_58 rfl ?_
              refine rr_iinc3 (z := 1) (pc := 59) B dX9_bestNow_59 rfl ?_
              refine rr_goto 10 (pc := 62) B dX9_bestNow_62 (by decide) ?_
              refine ih.1 _ _ _ _ _ ?_ ?_ ?_ ?_ ?_ ?_
              · first | exact b1.1 | exact K0
              · first | exact b1.2 | exact K1
              · omega
              · unfold beB; rw [itI_s _ _ (by omega)]
                show _ = (beS (vw S) d (beB (vw S) d)).1 ∧ _ = (beS (vw S) d (beB (vw S) d)).2
                unfold beS; rw [← K3.2]
                first | (exfalso; omega) | (rw [if_pos (by omega)]; exact ⟨rfl, rfl⟩) | (rw [if_neg (by omega)]; exact K3)
              · have := wth_r (vw S) (nD (rch (vw S) (p2 d)) (p2 d)) N8 (fun j h0 h1 => by have := G1.at (sa_50.2.2 j); rw [K0.1 50 j ⟨h0, h1⟩] at this; exact this); unfold spV at *; omega
              · omega
  refine rr_aload0 (pc := 0) B dX9_bestNow_0 ?_
  refine rc_VVR0 (pc := 1) B dX9_bestNow_1 vm_X9_reads lk_9_139 so_9 rfl (ct_X9_reads _ _  _ (by exact H0)) (Nat.le_of_ble_eq_true rfl) (Nat.le_of_ble_eq_true rfl) (fun Mb1 b1 => ?_)
  refine rr_rg (fun G1 => ?_)
  have N8 : 0 ≤ vw S 9 2 ∧ vw S 9 2 ≤ 8 := by have := G1.at ob_9_2.2.1; rw [b1.1.1 9 2 (Or.inl rfl)] at this; exact this
  have P8 : 1 ≤ p2 (vw S 9 2) ∧ p2 (vw S 9 2) ≤ 256 := ⟨p2_pos _, by have q2 := p2_le (a := vw S 9 2) (b := 8) N8.2; have q3 : p2 8 = 256 := rfl; omega⟩
  refine rr_iconst (z := (-1)) (pc := 4) B dX9_bestNow_4 ?_
  refine rr_istore1 (pc := 5) B dX9_bestNow_5 rfl ?_
  refine rr_iconst (z := 0) (pc := 6) B dX9_bestNow_6 ?_
  refine rr_istore2 (pc := 7) B dX9_bestNow_7 rfl ?_
  refine rr_iconst (z := 0) (pc := 8) B dX9_bestNow_8 ?_
  refine rr_istore3 (pc := 9) B dX9_bestNow_9 rfl ?_
  refine (L _).1 _ _ _ _ _ ?_ ?_ ?_ ?_ ?_ (Nat.lt_succ_self _)
  · first | exact b1.1 | exact K0
  · first | exact b1.2 | exact K1
  · refine ⟨by omega, ?_⟩; exact N8.1
  · exact ⟨rfl, rfl⟩
  · omega
set_option maxHeartbeats 4000000 in
set_option maxRecDepth 100000 in
theorem ct_X9_best (g : ax_G) (M : ax_M) (S : ax_M) (H0 : bs S M) (H1 : SI S) : CT g md_X9_best 5 [aR 9] M (pIR (vBest S) (fun M2 => bs (S) M2 ∧ co M M2)) := by
  refine ct_intro 0 rfl rfl ?_
  intro X hg B Br
  subst hg
  show AW X 0 [some (aR 9)] [] M
  refine rr_rg (fun G0 => ?_)
  have HB := H0
  refine rr_aload0 (pc := 0) B dX9_best_0 ?_
  refine rc_VIR0 (pc := 1) B dX9_best_1 vm_X9_bestNow lk_9_264 so_9 rfl (ct_X9_bestNow _ _  _ (by exact H0)) (Nat.le_of_ble_eq_true rfl) (Nat.le_of_ble_eq_true rfl) (fun Mb1 b1 => ?_)
  refine rr_ireturn (pc := 4) B Br dX9_best_4 ⟨congrArg (fun z => some (aI z)) ?_, ?_⟩
  · rfl
  · exact ⟨b1.1.2.1, co_P b1.2⟩
set_option maxHeartbeats 4000000 in
set_option maxRecDepth 100000 in
theorem ct_X9_regretsOf (g : ax_G) (M : ax_M) (m w : Int) (S : ax_M) (H0 : bs S M) (H1 : 0 ≤ m ∧ m ≤ 8) (H2 : 0 ≤ w ∧ w ≤ 1) : CT g md_X9_regretsOf 5 [aR 9, aI m, aI w] M (pLR (rgV (vw S) m w) (fun M2 => rdM S M2 ∧ frm exP M M2)) := by
  refine ct_intro 2 rfl rfl ?_
  intro X hg B Br
  subst hg
  show AW X 0 [some (aR 9), some (aI m), some (aI w), none, none] [] M
  refine rr_rg (fun G0 => ?_)
  have L : ∀ nn : Nat, (∀ (M1 : ax_M) (z d : Int), (rdM S M1) → (frm exP M M1) → (0 ≤ d ∧ d ≤ vw S 9 2) → (z = nev (vw S) d) → (0 ≤ z ∧ z ≤ d) → ((8 - d).toNat) < nn → AW X 9 [some (aR 9), some (aI m), some (aI w), some (aI z), some (aI d)] [] M1) ∧ True := by
    intro nn
    induction nn with
    | zero => exact ⟨by intros; omega, trivial⟩
    | succ nn ih =>
      refine ⟨?_, trivial⟩
      · intro M1 z d K0 K1 K2 K3 K4 hm
        refine rr_rg (fun G1 => ?_)
        have N8 : 0 ≤ vw S 9 2 ∧ vw S 9 2 ≤ 8 := by have := G1.at ob_9_2.2.1; rw [K0.1 9 2 (Or.inl rfl)] at this; exact this
        refine rr_iload4 (pc := 9) B dX9_regretsOf_9 ?_
        refine rr_aload0 (pc := 11) B dX9_regretsOf_11 ?_
        refine rr_getIE (pc := 12) B dX9_regretsOf_12 fl_9_107 ob_9_2 (K0.1 9 _ (Or.inl rfl)) (fun b1 => ?_)
        refine rr_icmp_ge 41 (pc := 15) B dX9_regretsOf_15 (by decide) (by omega) (fun b2 => ?_) (fun b2 => ?_)
        · refine rr_iload1 (pc := 41) B dX9_regretsOf_41 ?_
          refine rr_aload0 (pc := 42) B dX9_regretsOf_42 ?_
          refine rr_getIE (pc := 43) B dX9_regretsOf_43 fl_9_107 ob_9_2 (K0.1 9 _ (Or.inl rfl)) (fun b3 => ?_)
          refine rr_icmp_le 57 (pc := 46) B dX9_regretsOf_46 (by decide) (by omega) (fun b4 => ?_) (fun b4 => ?_)
          · refine rr_iload3 (pc := 57) B dX9_regretsOf_57 ?_
            refine rr_iload1 (pc := 58) B dX9_regretsOf_58 ?_
            refine rc_SL2 (pc := 59) B dX9_regretsOf_59 st_X9_choose lk_9_267 (ct_X9_choose _ _ _ _  (by omega) (by omega)) (Nat.le_of_ble_eq_true rfl) (Nat.le_of_ble_eq_true rfl) ?_
            refine rr_aload0 (pc := 62) B dX9_regretsOf_62 ?_
            refine rr_getIE (pc := 63) B dX9_regretsOf_63 fl_9_107 ob_9_2 (K0.1 9 _ (Or.inl rfl)) (fun b5 => ?_)
            refine rr_iload1 (pc := 66) B dX9_regretsOf_66 ?_
            refine rc_SL2 (pc := 67) B dX9_regretsOf_67 st_X9_choose lk_9_267 (ct_X9_choose _ _ _ _  (by omega) (by omega)) (Nat.le_of_ble_eq_true rfl) (Nat.le_of_ble_eq_true rfl) ?_
            refine rr_iload2 (pc := 70) B dX9_regretsOf_70 ?_
            refine rc_SL3 (pc := 71) B dX9_regretsOf_71 st_X9_lowest lk_9_235 (ct_X9_lowest _ _ _ _ _  (by have := chV_r (n := z) (k := m) (by omega) (by omega); omega) (by have := chV_p (n := vw S 9 2) (k := m) (by omega) (by omega); omega) (by omega)) (Nat.le_of_ble_eq_true rfl) (Nat.le_of_ble_eq_true rfl) ?_
            refine rr_lreturn (pc := 74) B Br dX9_regretsOf_74 ⟨congrArg (fun z => some (aL z)) ?_, ?_⟩
            · unfold rgV; first | (rw [if_pos (by omega)]; done) | (rw [if_neg (by omega), K3, show d = vw S 9 2 by omega]; done)
            · exact ⟨K0, K1⟩
          · refine rr_bipush (z := (-3)) (pc := 49) B dX9_regretsOf_49 (by decide) ?_
            refine rc_SL1 (pc := 51) B dX9_regretsOf_51 st_X9_no lk_9_229 (ct_X9_no _ _ _  (by omega)) (Nat.le_of_ble_eq_true rfl) (Nat.le_of_ble_eq_true rfl) ?_
            refine rr_goto 74 (pc := 54) B dX9_regretsOf_54 (by decide) ?_
            refine rr_lreturn (pc := 74) B Br dX9_regretsOf_74 ⟨congrArg (fun z => some (aL z)) ?_, ?_⟩
            · unfold rgV; first | (rw [if_pos (by omega)]; done) | (rw [if_neg (by omega), K3, show d = vw S 9 2 by omega]; done)
            · exact ⟨K0, K1⟩
        · refine rr_iload3 (pc := 18) B dX9_regretsOf_18 ?_
          refine rr_aload0 (pc := 19) B dX9_regretsOf_19 ?_
          refine rr_iload4 (pc := 20) B dX9_regretsOf_20 ?_
          refine rc_VI1 (pc := 22) B dX9_regretsOf_22 vm_X9_hoursOf lk_9_179 so_9 rfl (ct_X9_hoursOf _ _ _ (vw S) (K0.1) (by omega)) (Nat.le_of_ble_eq_true rfl) (Nat.le_of_ble_eq_true rfl) ?_
          refine rr_if_ne 32 (pc := 25) B dX9_regretsOf_25 (by decide) (by have := hrs_r (vw S) d; omega) (fun b3 => ?_) (fun b3 => ?_)
          · refine rr_iconst (z := 0) (pc := 32) B dX9_regretsOf_32 ?_
            refine rr_iadd (pc := 33) B dX9_regretsOf_33 ?_
            refine rr_istore3 (pc := 34) B dX9_regretsOf_34 rfl ?_
            refine rr_iinc4 (z := 1) (pc := 35) B dX9_regretsOf_35 rfl ?_
            refine rr_goto 9 (pc := 38) B dX9_regretsOf_38 (by decide) ?_
            refine ih.1 _ _ _ ?_ ?_ ?_ ?_ ?_ ?_
            · first | exact b1.1 | exact K0
            · first | exact b1.2 | exact K1
            · omega
            · unfold nev; rw [itI_s _ _ (by omega)]; unfold nev at K3; rw [← K3]; first | (rw [if_pos (by omega)]; done) | (rw [if_neg (by omega)]; done)
            · omega
            · omega
          · refine rr_iconst (z := 1) (pc := 28) B dX9_regretsOf_28 ?_
            refine rr_goto 33 (pc := 29) B dX9_regretsOf_29 (by decide) ?_
            refine rr_iadd (pc := 33) B dX9_regretsOf_33 ?_
            refine rr_istore3 (pc := 34) B dX9_regretsOf_34 rfl ?_
            refine rr_iinc4 (z := 1) (pc := 35) B dX9_regretsOf_35 rfl ?_
            refine rr_goto 9 (pc := 38) B dX9_regretsOf_38 (by decide) ?_
            refine ih.1 _ _ _ ?_ ?_ ?_ ?_ ?_ ?_
            · first | exact b1.1 | exact K0
            · first | exact b1.2 | exact K1
            · omega
            · unfold nev; rw [itI_s _ _ (by omega)]; unfold nev at K3; rw [← K3]; first | (rw [if_pos (by omega)]; done) | (rw [if_neg (by omega)]; done)
            · omega
            · omega
  refine rr_aload0 (pc := 0) B dX9_regretsOf_0 ?_
  refine rc_VVR0 (pc := 1) B dX9_regretsOf_1 vm_X9_reads lk_9_139 so_9 rfl (ct_X9_reads _ _  _ (by exact H0)) (Nat.le_of_ble_eq_true rfl) (Nat.le_of_ble_eq_true rfl) (fun Mb1 b1 => ?_)
  refine rr_rg (fun G1 => ?_)
  have N8 : 0 ≤ vw S 9 2 ∧ vw S 9 2 ≤ 8 := by have := G1.at ob_9_2.2.1; rw [b1.1.1 9 2 (Or.inl rfl)] at this; exact this
  have P8 : 1 ≤ p2 (vw S 9 2) ∧ p2 (vw S 9 2) ≤ 256 := ⟨p2_pos _, by have q2 := p2_le (a := vw S 9 2) (b := 8) N8.2; have q3 : p2 8 = 256 := rfl; omega⟩
  refine rr_iconst (z := 0) (pc := 4) B dX9_regretsOf_4 ?_
  refine rr_istore3 (pc := 5) B dX9_regretsOf_5 rfl ?_
  refine rr_iconst (z := 0) (pc := 6) B dX9_regretsOf_6 ?_
  refine rr_istore4 (pc := 7) B dX9_regretsOf_7 rfl ?_
  refine (L _).1 _ _ _ ?_ ?_ ?_ ?_ ?_ (Nat.lt_succ_self _)
  · first | exact b1.1 | exact K0
  · first | exact b1.2 | exact K1
  · refine ⟨by omega, ?_⟩; exact N8.1
  · rfl
  · omega
set_option maxHeartbeats 4000000 in
set_option maxRecDepth 100000 in
theorem ct_X9_regrets (g : ax_G) (M : ax_M) (m w : Int) (S : ax_M) (H0 : bs S M) (H1 : SI S) (H2 : -2147483648 ≤ m ∧ m ≤ 2147483647 ∧ -2147483648 ≤ w ∧ w ≤ 2147483647) : CT g md_X9_regrets 6 [aR 9, aI m, aI w] M (pLR (vRegr S m w) (fun M2 => bs (S) M2 ∧ co M M2)) := by
  refine ct_intro 0 rfl rfl ?_
  intro X hg B Br
  subst hg
  show AW X 0 [some (aR 9), some (aI m), some (aI w)] [] M
  refine rr_rg (fun G0 => ?_)
  have HB := H0
  refine rr_iload1 (pc := 0) B dX9_regrets_0 ?_
  refine rr_iconst (z := 0) (pc := 1) B dX9_regrets_1 ?_
  refine rr_bipush (z := 8) (pc := 2) B dX9_regrets_2 (by decide) ?_
  refine rc_SI3 (pc := 4) B dX9_regrets_4 st_X9_in lk_9_103 (ct_X9_in _ _ _ _ _  (by omega)) (Nat.le_of_ble_eq_true rfl) (Nat.le_of_ble_eq_true rfl) ?_
  refine rr_if_eqB 28 (pc := 7) B dX9_regrets_7 (by decide) (fun b1 => ?_) (fun b1 => ?_)
  · replace b1 := of_decide_eq_false b1
    refine rr_bipush (z := (-2)) (pc := 28) B dX9_regrets_28 (by decide) ?_
    refine rc_SL1 (pc := 30) B dX9_regrets_30 st_X9_no lk_9_229 (ct_X9_no _ _ _  (by omega)) (Nat.le_of_ble_eq_true rfl) (Nat.le_of_ble_eq_true rfl) ?_
    refine rr_lreturn (pc := 33) B Br dX9_regrets_33 ⟨congrArg (fun z => some (aL z)) ?_, ?_⟩
    · unfold vRegr; first | exact (if_pos (by omega)).symm | exact (if_neg (by omega)).symm
    · first | exact ⟨b3.1.2.1, co_P b3.2⟩ | exact ⟨H0, co_rfl M⟩
  · replace b1 := of_decide_eq_true b1
    refine rr_iload2 (pc := 10) B dX9_regrets_10 ?_
    refine rr_iconst (z := 0) (pc := 11) B dX9_regrets_11 ?_
    refine rr_iconst (z := 1) (pc := 12) B dX9_regrets_12 ?_
    refine rc_SI3 (pc := 13) B dX9_regrets_13 st_X9_in lk_9_103 (ct_X9_in _ _ _ _ _  (by omega)) (Nat.le_of_ble_eq_true rfl) (Nat.le_of_ble_eq_true rfl) ?_
    refine rr_if_eqB 28 (pc := 16) B dX9_regrets_16 (by decide) (fun b2 => ?_) (fun b2 => ?_)
    · replace b2 := of_decide_eq_false b2
      refine rr_bipush (z := (-2)) (pc := 28) B dX9_regrets_28 (by decide) ?_
      refine rc_SL1 (pc := 30) B dX9_regrets_30 st_X9_no lk_9_229 (ct_X9_no _ _ _  (by omega)) (Nat.le_of_ble_eq_true rfl) (Nat.le_of_ble_eq_true rfl) ?_
      refine rr_lreturn (pc := 33) B Br dX9_regrets_33 ⟨congrArg (fun z => some (aL z)) ?_, ?_⟩
      · unfold vRegr; first | exact (if_pos (by omega)).symm | exact (if_neg (by omega)).symm
      · first | exact ⟨b3.1.2.1, co_P b3.2⟩ | exact ⟨H0, co_rfl M⟩
    · replace b2 := of_decide_eq_true b2
      refine rr_aload0 (pc := 19) B dX9_regrets_19 ?_
      refine rr_iload1 (pc := 20) B dX9_regrets_20 ?_
      refine rr_iload2 (pc := 21) B dX9_regrets_21 ?_
      refine rc_VLR2 (pc := 22) B dX9_regrets_22 vm_X9_regretsOf lk_9_271 so_9 rfl (ct_X9_regretsOf _ _ _ _ _ (by exact H0) (by omega) (by omega)) (Nat.le_of_ble_eq_true rfl) (Nat.le_of_ble_eq_true rfl) (fun Mb3 b3 => ?_)
      refine rr_goto 33 (pc := 25) B dX9_regrets_25 (by decide) ?_
      refine rr_lreturn (pc := 33) B Br dX9_regrets_33 ⟨congrArg (fun z => some (aL z)) ?_, ?_⟩
      · unfold vRegr; first | exact (if_pos (by omega)).symm | exact (if_neg (by omega)).symm
      · first | exact ⟨b3.1.2.1, co_P b3.2⟩ | exact ⟨H0, co_rfl M⟩
set_option maxHeartbeats 4000000 in
set_option maxRecDepth 100000 in
theorem ct_X9_crowdOf (g : ax_G) (M : ax_M) (w : Int) (S : ax_M) (H0 : bs S M) (H1 : 0 ≤ w ∧ w ≤ 2) : CT g md_X9_crowdOf 4 [aR 9, aI w] M (pIR (crO (vw S) w) (fun M2 => rdM S M2 ∧ frm exP M M2)) := by
  refine ct_intro 4 rfl rfl ?_
  intro X hg B Br
  subst hg
  show AW X 0 [some (aR 9), some (aI w), none, none, none, none] [] M
  refine rr_rg (fun G0 => ?_)
  have L : ∀ nn : Nat, (∀ (M1 : ax_M) (b m c : Int) (w5 : Option ax_V), (rdM S M1) → (frm exP M M1) → (0 ≤ c ∧ c ≤ 64) → (b = (crB (vw S) c).1 ∧ m = (crB (vw S) c).2) → (-1 ≤ b ∧ b < 64 ∧ 0 ≤ m ∧ m ≤ 8) → ((64 - c).toNat) < nn → AW X 11 [some (aR 9), some (aI w), some (aI b), some (aI m), some (aI c), w5] [] M1) ∧ True := by
    intro nn
    induction nn with
    | zero => exact ⟨by intros; omega, trivial⟩
    | succ nn ih =>
      refine ⟨?_, trivial⟩
      · intro M1 b m c w5 K0 K1 K2 K3 K4 hm
        refine rr_rg (fun G1 => ?_)
        have N8 : 0 ≤ vw S 9 2 ∧ vw S 9 2 ≤ 8 := by have := G1.at ob_9_2.2.1; rw [K0.1 9 2 (Or.inl rfl)] at this; exact this
        refine rr_iload4 (pc := 11) B dX9_crowdOf_11 ?_
        refine rr_bipush (z := 64) (pc := 13) B dX9_crowdOf_13 (by decide) ?_
        refine rr_icmp_ge 66 (pc := 15) B dX9_crowdOf_15 (by decide) (by omega) (fun b1 => ?_) (fun b1 => ?_)
        · refine rr_iload1 (pc := 66) B dX9_crowdOf_66 ?_
          refine rr_iconst (z := 2) (pc := 67) B dX9_crowdOf_67 ?_
          refine rr_icmp_ne 75 (pc := 68) B dX9_crowdOf_68 (by decide) (by omega) (fun b2 => ?_) (fun b2 => ?_)
          · refine rr_iload2 (pc := 75) B dX9_crowdOf_75 ?_
            refine rr_iconst (z := (-1)) (pc := 76) B dX9_crowdOf_76 ?_
            refine rr_icmp_ne 84 (pc := 77) B dX9_crowdOf_77 (by decide) (by omega) (fun b3 => ?_) (fun b3 => ?_)
            · refine rr_iload1 (pc := 84) B dX9_crowdOf_84 ?_
              refine rr_if_ne 95 (pc := 85) B dX9_crowdOf_85 (by decide) (by omega) (fun b4 => ?_) (fun b4 => ?_)
              · refine rr_iload2 (pc := 95) B dX9_crowdOf_95 ?_
                refine rr_bipush (z := 8) (pc := 96) B dX9_crowdOf_96 (by decide) ?_
                refine rr_irem (pc := 98) B dX9_crowdOf_98 (by omega) ?_
                refine rr_ireturn (pc := 99) B Br dX9_crowdOf_99 ⟨congrArg (fun z => some (aI z)) ?_, ?_⟩
                · unfold crO; rw [show crB (vw S) 64 = (b, m) by rw [K3.1, K3.2, show c = 64 by omega]]
                  show _ = (if w = 2 then m else if b = -1 then -1 else if w = 0 then b / 8 else b % 8)
                  repeat (first | rw [if_pos (by omega)] | rw [if_neg (by omega)])
                · exact ⟨K0, K1⟩
              · refine rr_iload2 (pc := 88) B dX9_crowdOf_88 ?_
                refine rr_bipush (z := 8) (pc := 89) B dX9_crowdOf_89 (by decide) ?_
                refine rr_idiv (pc := 91) B dX9_crowdOf_91 (by omega) ?_
                refine rr_goto 99 (pc := 92) B dX9_crowdOf_92 (by decide) ?_
                refine rr_ireturn (pc := 99) B Br dX9_crowdOf_99 ⟨congrArg (fun z => some (aI z)) ?_, ?_⟩
                · unfold crO; rw [show crB (vw S) 64 = (b, m) by rw [K3.1, K3.2, show c = 64 by omega]]
                  show _ = (if w = 2 then m else if b = -1 then -1 else if w = 0 then b / 8 else b % 8)
                  repeat (first | rw [if_pos (by omega)] | rw [if_neg (by omega)])
                · exact ⟨K0, K1⟩
            · refine rr_iconst (z := (-1)) (pc := 80) B dX9_crowdOf_80 ?_
              refine rr_goto 99 (pc := 81) B dX9_crowdOf_81 (by decide) ?_
              refine rr_ireturn (pc := 99) B Br dX9_crowdOf_99 ⟨congrArg (fun z => some (aI z)) ?_, ?_⟩
              · unfold crO; rw [show crB (vw S) 64 = (b, m) by rw [K3.1, K3.2, show c = 64 by omega]]
                show _ = (if w = 2 then m else if b = -1 then -1 else if w = 0 then b / 8 else b % 8)
                repeat (first | rw [if_pos (by omega)] | rw [if_neg (by omega)])
              · exact ⟨K0, K1⟩
          · refine rr_iload3 (pc := 71) B dX9_crowdOf_71 ?_
            refine rr_goto 99 (pc := 72) B dX9_crowdOf_72 (by decide) ?_
            refine rr_ireturn (pc := 99) B Br dX9_crowdOf_99 ⟨congrArg (fun z => some (aI z)) ?_, ?_⟩
            · unfold crO; rw [show crB (vw S) 64 = (b, m) by rw [K3.1, K3.2, show c = 64 by omega]]
              show _ = (if w = 2 then m else if b = -1 then -1 else if w = 0 then b / 8 else b % 8)
              repeat (first | rw [if_pos (by omega)] | rw [if_neg (by omega)])
            · exact ⟨K0, K1⟩
        · refine rr_aload0 (pc := 18) B dX9_crowdOf_18 ?_
          refine rr_iload4 (pc := 19) B dX9_crowdOf_19 ?_
          refine rr_bipush (z := 8) (pc := 21) B dX9_crowdOf_21 (by decide) ?_
          refine rr_idiv (pc := 23) B dX9_crowdOf_23 (by omega) ?_
          refine rr_iload4 (pc := 24) B dX9_crowdOf_24 ?_
          refine rr_bipush (z := 8) (pc := 26) B dX9_crowdOf_26 (by decide) ?_
          refine rr_irem (pc := 28) B dX9_crowdOf_28 (by omega) ?_
          refine rc_VI2 (pc := 29) B dX9_crowdOf_29 vm_X9_askedOf lk_9_220 so_9 rfl (ct_X9_askedOf _ _ _ _ (vw S) (K0.1) (by omega) (by omega)) (Nat.le_of_ble_eq_true rfl) (Nat.le_of_ble_eq_true rfl) ?_
          refine rr_istore5 (pc := 32) B dX9_crowdOf_32 rfl ?_
          refine rr_iload5 (pc := 34) B dX9_crowdOf_34 ?_
          refine rr_iload3 (pc := 36) B dX9_crowdOf_36 ?_
          refine rr_icmp_le 45 (pc := 37) B dX9_crowdOf_37 (by decide) (by have := askd_r (vw S) (c / 8) (c % 8) N8; omega) (fun b2 => ?_) (fun b2 => ?_)
          · refine rr_iload2 (pc := 45) B dX9_crowdOf_45 ?_
            refine rr_istore2 (pc := 46) B dX9_crowdOf_46 rfl ?_
            refine rr_iload5 (pc := 47) B dX9_crowdOf_47 ?_
            refine rr_iload3 (pc := 49) B dX9_crowdOf_49 ?_
            refine rr_icmp_le 58 (pc := 50) B dX9_crowdOf_50 (by decide) (by have := askd_r (vw S) (c / 8) (c % 8) N8; omega) (fun b3 => ?_) (fun b3 => ?_)
            · refine rr_iload3 (pc := 58) B dX9_crowdOf_58 ?_
              refine rr_istore3 (pc := 59) B dX9_crowdOf_59 rfl ?_
              refine rr_iinc4 (z := 1) (pc := 60) B dX9_crowdOf_60 rfl ?_
              refine rr_goto 11 (pc := 63) B dX9_crowdOf_63 (by decide) ?_
              refine ih.1 _ _ _ _ _ ?_ ?_ ?_ ?_ ?_ ?_
              · first | exact b1.1 | exact K0
              · first | exact b1.2 | exact K1
              · omega
              · unfold crB; rw [itI_s _ _ (by omega)]
                show _ = (crS (vw S) c (crB (vw S) c)).1 ∧ _ = (crS (vw S) c (crB (vw S) c)).2
                unfold crS; rw [← K3.2]
                first | (exfalso; omega) | (rw [if_pos (by omega)]; exact ⟨rfl, rfl⟩) | (rw [if_neg (by omega)]; exact K3)
              · have := askd_r (vw S) (c / 8) (c % 8) N8; omega
              · omega
            · refine rr_iload5 (pc := 53) B dX9_crowdOf_53 ?_
              refine rr_goto 59 (pc := 55) B dX9_crowdOf_55 (by decide) ?_
              refine rr_istore3 (pc := 59) B dX9_crowdOf_59 rfl ?_
              refine rr_iinc4 (z := 1) (pc := 60) B dX9_crowdOf_60 rfl ?_
              refine rr_goto 11 (pc := 63) B dX9_crowdOf_63 (by decide) ?_
              refine ih.1 _ _ _ _ _ ?_ ?_ ?_ ?_ ?_ ?_
              · first | exact b1.1 | exact K0
              · first | exact b1.2 | exact K1
              · omega
              · unfold crB; rw [itI_s _ _ (by omega)]
                show _ = (crS (vw S) c (crB (vw S) c)).1 ∧ _ = (crS (vw S) c (crB (vw S) c)).2
                unfold crS; rw [← K3.2]
                first | (exfalso; omega) | (rw [if_pos (by omega)]; exact ⟨rfl, rfl⟩) | (rw [if_neg (by omega)]; exact K3)
              · have := askd_r (vw S) (c / 8) (c % 8) N8; omega
              · omega
          · refine rr_iload4 (pc := 40) B dX9_crowdOf_40 ?_
            refine rr_goto 46 (pc := 42) B dX9_crowdOf_42 (by decide) ?_
            refine rr_istore2 (pc := 46) B dX9_crowdOf_46 rfl ?_
            refine rr_iload5 (pc := 47) B dX9_crowdOf_47 ?_
            refine rr_iload3 (pc := 49) B dX9_crowdOf_49 ?_
            refine rr_icmp_le 58 (pc := 50) B dX9_crowdOf_50 (by decide) (by have := askd_r (vw S) (c / 8) (c % 8) N8; omega) (fun b3 => ?_) (fun b3 => ?_)
            · refine rr_iload3 (pc := 58) B dX9_crowdOf_58 ?_
              refine rr_istore3 (pc := 59) B dX9_crowdOf_59 rfl ?_
              refine rr_iinc4 (z := 1) (pc := 60) B dX9_crowdOf_60 rfl ?_
              refine rr_goto 11 (pc := 63) B dX9_crowdOf_63 (by decide) ?_
              refine ih.1 _ _ _ _ _ ?_ ?_ ?_ ?_ ?_ ?_
              · first | exact b1.1 | exact K0
              · first | exact b1.2 | exact K1
              · omega
              · unfold crB; rw [itI_s _ _ (by omega)]
                show _ = (crS (vw S) c (crB (vw S) c)).1 ∧ _ = (crS (vw S) c (crB (vw S) c)).2
                unfold crS; rw [← K3.2]
                first | (exfalso; omega) | (rw [if_pos (by omega)]; exact ⟨rfl, rfl⟩) | (rw [if_neg (by omega)]; exact K3)
              · have := askd_r (vw S) (c / 8) (c % 8) N8; omega
              · omega
            · refine rr_iload5 (pc := 53) B dX9_crowdOf_53 ?_
              refine rr_goto 59 (pc := 55) B dX9_crowdOf_55 (by decide) ?_
              refine rr_istore3 (pc := 59) B dX9_crowdOf_59 rfl ?_
              refine rr_iinc4 (z := 1) (pc := 60) B dX9_crowdOf_60 rfl ?_
              refine rr_goto 11 (pc := 63) B dX9_crowdOf_63 (by decide) ?_
              refine ih.1 _ _ _ _ _ ?_ ?_ ?_ ?_ ?_ ?_
              · first | exact b1.1 | exact K0
              · first | exact b1.2 | exact K1
              · omega
              · unfold crB; rw [itI_s _ _ (by omega)]
                show _ = (crS (vw S) c (crB (vw S) c)).1 ∧ _ = (crS (vw S) c (crB (vw S) c)).2
                unfold crS; rw [← K3.2]
                first | (exfalso; omega) | (rw [if_pos (by omega)]; exact ⟨rfl, rfl⟩) | (rw [if_neg (by omega)]; exact K3)
              · have := askd_r (vw S) (c / 8) (c % 8) N8; omega
              · omega
  refine rr_aload0 (pc := 0) B dX9_crowdOf_0 ?_
  refine rc_VVR0 (pc := 1) B dX9_crowdOf_1 vm_X9_reads lk_9_139 so_9 rfl (ct_X9_reads _ _  _ (by exact H0)) (Nat.le_of_ble_eq_true rfl) (Nat.le_of_ble_eq_true rfl) (fun Mb1 b1 => ?_)
  refine rr_iconst (z := (-1)) (pc := 4) B dX9_crowdOf_4 ?_
  refine rr_istore2 (pc := 5) B dX9_crowdOf_5 rfl ?_
  refine rr_iconst (z := 0) (pc := 6) B dX9_crowdOf_6 ?_
  refine rr_istore3 (pc := 7) B dX9_crowdOf_7 rfl ?_
  refine rr_iconst (z := 0) (pc := 8) B dX9_crowdOf_8 ?_
  refine rr_istore4 (pc := 9) B dX9_crowdOf_9 rfl ?_
  refine (L _).1 _ _ _ _ _ ?_ ?_ ?_ ?_ ?_ (Nat.lt_succ_self _)
  · first | exact b1.1 | exact K0
  · first | exact b1.2 | exact K1
  · omega
  · exact ⟨rfl, rfl⟩
  · omega
set_option maxHeartbeats 4000000 in
set_option maxRecDepth 100000 in
theorem ct_X9_crowd (g : ax_G) (M : ax_M) (w : Int) (S : ax_M) (H0 : bs S M) (H1 : SI S) (H2 : -2147483648 ≤ w ∧ w ≤ 2147483647) : CT g md_X9_crowd 5 [aR 9, aI w] M (pIR (vCrowd S w) (fun M2 => bs (S) M2 ∧ co M M2)) := by
  refine ct_intro 0 rfl rfl ?_
  intro X hg B Br
  subst hg
  show AW X 0 [some (aR 9), some (aI w)] [] M
  refine rr_rg (fun G0 => ?_)
  have HB := H0
  refine rr_iload1 (pc := 0) B dX9_crowd_0 ?_
  refine rr_iconst (z := 0) (pc := 1) B dX9_crowd_1 ?_
  refine rr_iconst (z := 2) (pc := 2) B dX9_crowd_2 ?_
  refine rc_SI3 (pc := 3) B dX9_crowd_3 st_X9_in lk_9_103 (ct_X9_in _ _ _ _ _  (by omega)) (Nat.le_of_ble_eq_true rfl) (Nat.le_of_ble_eq_true rfl) ?_
  refine rr_if_eqB 17 (pc := 6) B dX9_crowd_6 (by decide) (fun b1 => ?_) (fun b1 => ?_)
  · replace b1 := of_decide_eq_false b1
    refine rr_bipush (z := (-2)) (pc := 17) B dX9_crowd_17 (by decide) ?_
    refine rr_ireturn (pc := 19) B Br dX9_crowd_19 ⟨congrArg (fun z => some (aI z)) ?_, ?_⟩
    · unfold vCrowd; first | exact (if_pos (by omega)).symm | exact (if_neg (by omega)).symm
    · first | exact ⟨b2.1.2.1, co_P b2.2⟩ | exact ⟨H0, co_rfl M⟩
  · replace b1 := of_decide_eq_true b1
    refine rr_aload0 (pc := 9) B dX9_crowd_9 ?_
    refine rr_iload1 (pc := 10) B dX9_crowd_10 ?_
    refine rc_VIR1 (pc := 11) B dX9_crowd_11 vm_X9_crowdOf lk_9_223 so_9 rfl (ct_X9_crowdOf _ _ _ _ (by exact H0) (by omega)) (Nat.le_of_ble_eq_true rfl) (Nat.le_of_ble_eq_true rfl) (fun Mb2 b2 => ?_)
    refine rr_goto 19 (pc := 14) B dX9_crowd_14 (by decide) ?_
    refine rr_ireturn (pc := 19) B Br dX9_crowd_19 ⟨congrArg (fun z => some (aI z)) ?_, ?_⟩
    · unfold vCrowd; first | exact (if_pos (by omega)).symm | exact (if_neg (by omega)).symm
    · first | exact ⟨b2.1.2.1, co_P b2.2⟩ | exact ⟨H0, co_rfl M⟩
set_option maxHeartbeats 4000000 in
set_option maxRecDepth 100000 in
theorem ct_X9_sumOf (g : ax_G) (M : ax_M) (w : Int) (S : ax_M) (H0 : bs S M) (H1 : w = 0 ∨ w = 3 ∨ w = 6 ∨ w = 7) : CT g md_X9_sumOf 5 [aR 9, aI w] M (pIR (vCount S w) (fun M2 => rdM S M2 ∧ frm exP M M2)) := by
  refine ct_intro 3 rfl rfl ?_
  intro X hg B Br
  subst hg
  show AW X 0 [some (aR 9), some (aI w), none, none, none] [] M
  refine rr_rg (fun G0 => ?_)
  have L : ∀ nn : Nat, (∀ (M1 : ax_M) (r h : Int), (rdM S M1) → (frm exP M M1) → (0 ≤ h ∧ h ≤ 8) → (r = itI (fun h s => s + S 59 h) 0 h) → ((8 - h).toNat) < nn → AW X 10 [some (aR 9), some (aI w), some (aI (p2 (vw S 9 2) - 1)), some (aI r), some (aI h)] [] M1) ∧ True := by
    intro nn
    induction nn with
    | zero => exact ⟨by intros; omega, trivial⟩
    | succ nn ih =>
      refine ⟨?_, trivial⟩
      · intro M1 r h K0 K1 K2 K3 hm
        refine rr_rg (fun G1 => ?_)
        have N8 : 0 ≤ vw S 9 2 ∧ vw S 9 2 ≤ 8 := by have := G1.at ob_9_2.2.1; rw [K0.1 9 2 (Or.inl rfl)] at this; exact this
        have P8 : 1 ≤ p2 (vw S 9 2) ∧ p2 (vw S 9 2) ≤ 256 := ⟨p2_pos _, by have q2 := p2_le (a := vw S 9 2) (b := 8) N8.2; have q3 : p2 8 = 256 := rfl; omega⟩
        refine rr_iload4 (pc := 10) B dX9_sumOf_10 ?_
        refine rr_bipush (z := 8) (pc := 12) B dX9_sumOf_12 (by decide) ?_
        refine rr_icmp_ge 33 (pc := 14) B dX9_sumOf_14 (by decide) (by omega) (fun b1 => ?_) (fun b1 => ?_)
        · refine rr_iload1 (pc := 33) B dX9_sumOf_33 ?_
          refine rr_if_ne 44 (pc := 34) B dX9_sumOf_34 (by decide) (by omega) (fun b2 => ?_) (fun b2 => ?_)
          · refine rr_iload1 (pc := 44) B dX9_sumOf_44 ?_
            refine rr_iconst (z := 3) (pc := 45) B dX9_sumOf_45 ?_
            refine rr_icmp_ne 56 (pc := 46) B dX9_sumOf_46 (by decide) (by omega) (fun b3 => ?_) (fun b3 => ?_)
            · refine rr_iload1 (pc := 56) B dX9_sumOf_56 ?_
              refine rr_bipush (z := 6) (pc := 57) B dX9_sumOf_57 (by decide) ?_
              refine rr_icmp_ne 70 (pc := 59) B dX9_sumOf_59 (by decide) (by omega) (fun b4 => ?_) (fun b4 => ?_)
              · refine rr_iload3 (pc := 70) B dX9_sumOf_70 ?_
                refine rr_ireturn (pc := 71) B Br dX9_sumOf_71 ⟨congrArg (fun z => some (aI z)) ?_, ?_⟩
                · unfold vCount; repeat (first | rw [if_pos (by omega)] | rw [if_neg (by omega)])
                  try (rw [K3, show h = 8 by omega]; rfl)
                · exact ⟨K0, K1⟩
              · refine rr_aload0 (pc := 62) B dX9_sumOf_62 ?_
                refine rr_iload2 (pc := 63) B dX9_sumOf_63 ?_
                refine rc_VI1 (pc := 64) B dX9_sumOf_64 vm_X9_worthBy lk_9_195 so_9 rfl (ct_X9_worthBy _ _ _ (vw S) (K0.1) (by omega)) (Nat.le_of_ble_eq_true rfl) (Nat.le_of_ble_eq_true rfl) ?_
                refine rr_goto 71 (pc := 67) B dX9_sumOf_67 (by decide) ?_
                refine rr_ireturn (pc := 71) B Br dX9_sumOf_71 ⟨congrArg (fun z => some (aI z)) ?_, ?_⟩
                · unfold vCount; repeat (first | rw [if_pos (by omega)] | rw [if_neg (by omega)])
                  try (rw [K3, show h = 8 by omega]; rfl)
                · exact ⟨K0, K1⟩
            · refine rr_aload0 (pc := 49) B dX9_sumOf_49 ?_
              refine rr_getIE (pc := 50) B dX9_sumOf_50 fl_9_123 ob_9_8 (K0.1 9 _ (by simp [relM])) (fun b4 => ?_)
              refine rr_goto 71 (pc := 53) B dX9_sumOf_53 (by decide) ?_
              refine rr_ireturn (pc := 71) B Br dX9_sumOf_71 ⟨congrArg (fun z => some (aI z)) ?_, ?_⟩
              · unfold vCount; repeat (first | rw [if_pos (by omega)] | rw [if_neg (by omega)])
                try (rw [K3, show h = 8 by omega]; rfl)
              · exact ⟨K0, K1⟩
          · refine rr_aload0 (pc := 37) B dX9_sumOf_37 ?_
            refine rr_getIE (pc := 38) B dX9_sumOf_38 fl_9_107 ob_9_2 (K0.1 9 _ (Or.inl rfl)) (fun b3 => ?_)
            refine rr_goto 71 (pc := 41) B dX9_sumOf_41 (by decide) ?_
            refine rr_ireturn (pc := 71) B Br dX9_sumOf_71 ⟨congrArg (fun z => some (aI z)) ?_, ?_⟩
            · unfold vCount; repeat (first | rw [if_pos (by omega)] | rw [if_neg (by omega)])
              try (rw [K3, show h = 8 by omega]; rfl)
            · exact ⟨K0, K1⟩
        · refine rr_iload3 (pc := 17) B dX9_sumOf_17 ?_
          refine rr_aload0 (pc := 18) B dX9_sumOf_18 ?_
          refine rr_getR (pc := 19) B dX9_sumOf_19 fl_9_52 or_9_16 ?_
          refine rr_iload4 (pc := 22) B dX9_sumOf_22 ?_
          refine rr_ialoadE (pc := 24) B dX9_sumOf_24 sa_59 (by omega) (K0.2.1 59 _ rfl) (fun b2 => ?_)
          refine rr_iadd (pc := 25) B dX9_sumOf_25 ?_
          refine rr_istore3 (pc := 26) B dX9_sumOf_26 rfl ?_
          refine rr_iinc4 (z := 1) (pc := 27) B dX9_sumOf_27 rfl ?_
          refine rr_goto 10 (pc := 30) B dX9_sumOf_30 (by decide) ?_
          refine ih.1 _ _ _ ?_ ?_ ?_ ?_ ?_
          · first | exact b1.1 | exact K0
          · first | exact b1.2 | exact K1
          · omega
          · rw [itI_s _ _ (by omega), ← K3]
          · omega
  refine rr_aload0 (pc := 0) B dX9_sumOf_0 ?_
  refine rc_VIR0 (pc := 1) B dX9_sumOf_1 vm_X9_allDeeds lk_9_258 so_9 rfl (ct_X9_allDeeds _ _  _ (by exact H0)) (Nat.le_of_ble_eq_true rfl) (Nat.le_of_ble_eq_true rfl) (fun Mb1 b1 => ?_)
  refine rr_istore2 (pc := 4) B dX9_sumOf_4 rfl ?_
  refine rr_iconst (z := 0) (pc := 5) B dX9_sumOf_5 ?_
  refine rr_istore3 (pc := 6) B dX9_sumOf_6 rfl ?_
  refine rr_iconst (z := 0) (pc := 7) B dX9_sumOf_7 ?_
  refine rr_istore4 (pc := 8) B dX9_sumOf_8 rfl ?_
  refine (L _).1 _ _ _ ?_ ?_ ?_ ?_ (Nat.lt_succ_self _)
  · first | exact b1.1 | exact K0
  · first | exact b1.2 | exact K1
  · omega
  · rfl
set_option maxHeartbeats 4000000 in
set_option maxRecDepth 100000 in
theorem ct_X9_count (g : ax_G) (M : ax_M) (w : Int) (S : ax_M) (H0 : bs S M) (H1 : SI S) (H2 : -2147483648 ≤ w ∧ w ≤ 2147483647) : CT g md_X9_count 6 [aR 9, aI w] M (pIR (vCount S w) (fun M2 => bs (S) M2 ∧ co M M2)) := by
  refine ct_intro 0 rfl rfl ?_
  intro X hg B Br
  subst hg
  show AW X 0 [some (aR 9), some (aI w)] [] M
  refine rr_rg (fun G0 => ?_)
  have HB := H0
  refine rr_iload1 (pc := 0) B dX9_count_0 ?_
  rcases (show w = 0 ∨ w = 1 ∨ w = 2 ∨ w = 3 ∨ w = 4 ∨ w = 5 ∨ w = 6 ∨ w = 7 ∨ w = 8 ∨ (w < 0 ∨ 8 < w) by omega) with b1 | b1 | b1 | b1 | b1 | b1 | b1 | b1 | b1 | b1
  · refine rr_tabAt 0 52 (pc := 1) B dX9_count_1 b1 (by decide) rfl (by decide) ?_
    refine rr_aload0 (pc := 52) B dX9_count_52 ?_
    refine rr_iload1 (pc := 53) B dX9_count_53 ?_
    refine rc_VIR1 (pc := 54) B dX9_count_54 vm_X9_sumOf lk_9_286 so_9 rfl (ct_X9_sumOf _ _ _ _ (by exact H0) (by omega)) (Nat.le_of_ble_eq_true rfl) (Nat.le_of_ble_eq_true rfl) (fun Mb2 b2 => ?_)
    refine rr_ireturn (pc := 57) B Br dX9_count_57 ⟨congrArg (fun z => some (aI z)) ?_, ?_⟩
    · unfold vCount; repeat (first | rw [if_pos (by omega)] | rw [if_neg (by omega)])
      try first | rfl | (rw [show w - 1 = 0 by omega]; done) | (rw [show w - 1 = 1 by omega]; done)
    · first | exact ⟨b2.1.2.1, co_P b2.2⟩ | exact ⟨H0, co_rfl M⟩
  · refine rr_tabAt 1 58 (pc := 1) B dX9_count_1 b1 (by decide) rfl (by decide) ?_
    refine rr_aload0 (pc := 58) B dX9_count_58 ?_
    refine rr_getR (pc := 59) B dX9_count_59 fl_9_7 or_9_0 ?_
    refine rr_iload1 (pc := 62) B dX9_count_62 ?_
    refine rr_iconst (z := 1) (pc := 63) B dX9_count_63 ?_
    refine rr_isub (pc := 64) B dX9_count_64 ?_
    refine rr_ialoadE (pc := 65) B dX9_count_65 sa_45 (by omega) (HB 45 _ rfl) (fun b2 => ?_)
    refine rr_ireturn (pc := 66) B Br dX9_count_66 ⟨congrArg (fun z => some (aI z)) ?_, ?_⟩
    · unfold vCount; repeat (first | rw [if_pos (by omega)] | rw [if_neg (by omega)])
      try first | rfl | (rw [show w - 1 = 0 by omega]; done) | (rw [show w - 1 = 1 by omega]; done)
    · first | exact ⟨b2.1.2.1, co_P b2.2⟩ | exact ⟨H0, co_rfl M⟩
  · refine rr_tabAt 2 58 (pc := 1) B dX9_count_1 b1 (by decide) rfl (by decide) ?_
    refine rr_aload0 (pc := 58) B dX9_count_58 ?_
    refine rr_getR (pc := 59) B dX9_count_59 fl_9_7 or_9_0 ?_
    refine rr_iload1 (pc := 62) B dX9_count_62 ?_
    refine rr_iconst (z := 1) (pc := 63) B dX9_count_63 ?_
    refine rr_isub (pc := 64) B dX9_count_64 ?_
    refine rr_ialoadE (pc := 65) B dX9_count_65 sa_45 (by omega) (HB 45 _ rfl) (fun b2 => ?_)
    refine rr_ireturn (pc := 66) B Br dX9_count_66 ⟨congrArg (fun z => some (aI z)) ?_, ?_⟩
    · unfold vCount; repeat (first | rw [if_pos (by omega)] | rw [if_neg (by omega)])
      try first | rfl | (rw [show w - 1 = 0 by omega]; done) | (rw [show w - 1 = 1 by omega]; done)
    · first | exact ⟨b2.1.2.1, co_P b2.2⟩ | exact ⟨H0, co_rfl M⟩
  · refine rr_tabAt 3 52 (pc := 1) B dX9_count_1 b1 (by decide) rfl (by decide) ?_
    refine rr_aload0 (pc := 52) B dX9_count_52 ?_
    refine rr_iload1 (pc := 53) B dX9_count_53 ?_
    refine rc_VIR1 (pc := 54) B dX9_count_54 vm_X9_sumOf lk_9_286 so_9 rfl (ct_X9_sumOf _ _ _ _ (by exact H0) (by omega)) (Nat.le_of_ble_eq_true rfl) (Nat.le_of_ble_eq_true rfl) (fun Mb2 b2 => ?_)
    refine rr_ireturn (pc := 57) B Br dX9_count_57 ⟨congrArg (fun z => some (aI z)) ?_, ?_⟩
    · unfold vCount; repeat (first | rw [if_pos (by omega)] | rw [if_neg (by omega)])
      try first | rfl | (rw [show w - 1 = 0 by omega]; done) | (rw [show w - 1 = 1 by omega]; done)
    · first | exact ⟨b2.1.2.1, co_P b2.2⟩ | exact ⟨H0, co_rfl M⟩
  · refine rr_tabAt 4 67 (pc := 1) B dX9_count_1 b1 (by decide) rfl (by decide) ?_
    refine rr_aload0 (pc := 67) B dX9_count_67 ?_
    refine rr_getIE (pc := 68) B dX9_count_68 fl_9_243 ob_9_26 (HB 9 _ rfl) (fun b2 => ?_)
    refine rr_ireturn (pc := 71) B Br dX9_count_71 ⟨congrArg (fun z => some (aI z)) ?_, ?_⟩
    · unfold vCount; repeat (first | rw [if_pos (by omega)] | rw [if_neg (by omega)])
      try first | rfl | (rw [show w - 1 = 0 by omega]; done) | (rw [show w - 1 = 1 by omega]; done)
    · first | exact ⟨b2.1.2.1, co_P b2.2⟩ | exact ⟨H0, co_rfl M⟩
  · refine rr_tabAt 5 72 (pc := 1) B dX9_count_1 b1 (by decide) rfl (by decide) ?_
    refine rr_aload0 (pc := 72) B dX9_count_72 ?_
    refine rr_getIE (pc := 73) B dX9_count_73 fl_9_255 ob_9_30 (HB 9 _ rfl) (fun b2 => ?_)
    refine rr_ireturn (pc := 76) B Br dX9_count_76 ⟨congrArg (fun z => some (aI z)) ?_, ?_⟩
    · unfold vCount; repeat (first | rw [if_pos (by omega)] | rw [if_neg (by omega)])
      try first | rfl | (rw [show w - 1 = 0 by omega]; done) | (rw [show w - 1 = 1 by omega]; done)
    · first | exact ⟨b2.1.2.1, co_P b2.2⟩ | exact ⟨H0, co_rfl M⟩
  · refine rr_tabAt 6 52 (pc := 1) B dX9_count_1 b1 (by decide) rfl (by decide) ?_
    refine rr_aload0 (pc := 52) B dX9_count_52 ?_
    refine rr_iload1 (pc := 53) B dX9_count_53 ?_
    refine rc_VIR1 (pc := 54) B dX9_count_54 vm_X9_sumOf lk_9_286 so_9 rfl (ct_X9_sumOf _ _ _ _ (by exact H0) (by omega)) (Nat.le_of_ble_eq_true rfl) (Nat.le_of_ble_eq_true rfl) (fun Mb2 b2 => ?_)
    refine rr_ireturn (pc := 57) B Br dX9_count_57 ⟨congrArg (fun z => some (aI z)) ?_, ?_⟩
    · unfold vCount; repeat (first | rw [if_pos (by omega)] | rw [if_neg (by omega)])
      try first | rfl | (rw [show w - 1 = 0 by omega]; done) | (rw [show w - 1 = 1 by omega]; done)
    · first | exact ⟨b2.1.2.1, co_P b2.2⟩ | exact ⟨H0, co_rfl M⟩
  · refine rr_tabAt 7 52 (pc := 1) B dX9_count_1 b1 (by decide) rfl (by decide) ?_
    refine rr_aload0 (pc := 52) B dX9_count_52 ?_
    refine rr_iload1 (pc := 53) B dX9_count_53 ?_
    refine rc_VIR1 (pc := 54) B dX9_count_54 vm_X9_sumOf lk_9_286 so_9 rfl (ct_X9_sumOf _ _ _ _ (by exact H0) (by omega)) (Nat.le_of_ble_eq_true rfl) (Nat.le_of_ble_eq_true rfl) (fun Mb2 b2 => ?_)
    refine rr_ireturn (pc := 57) B Br dX9_count_57 ⟨congrArg (fun z => some (aI z)) ?_, ?_⟩
    · unfold vCount; repeat (first | rw [if_pos (by omega)] | rw [if_neg (by omega)])
      try first | rfl | (rw [show w - 1 = 0 by omega]; done) | (rw [show w - 1 = 1 by omega]; done)
    · first | exact ⟨b2.1.2.1, co_P b2.2⟩ | exact ⟨H0, co_rfl M⟩
  · refine rr_tabAt 8 77 (pc := 1) B dX9_count_1 b1 (by decide) rfl (by decide) ?_
    refine rr_aload0 (pc := 77) B dX9_count_77 ?_
    refine rr_getIE (pc := 78) B dX9_count_78 fl_9_274 ob_9_38 (HB 9 _ rfl) (fun b2 => ?_)
    refine rr_ireturn (pc := 81) B Br dX9_count_81 ⟨congrArg (fun z => some (aI z)) ?_, ?_⟩
    · unfold vCount; repeat (first | rw [if_pos (by omega)] | rw [if_neg (by omega)])
      try first | rfl | (rw [show w - 1 = 0 by omega]; done) | (rw [show w - 1 = 1 by omega]; done)
    · first | exact ⟨b2.1.2.1, co_P b2.2⟩ | exact ⟨H0, co_rfl M⟩
  · refine rr_tabOut 82 (pc := 1) B dX9_count_1 (by omega) b1 (by decide) ?_
    refine rr_bipush (z := (-2)) (pc := 82) B dX9_count_82 (by decide) ?_
    refine rr_ireturn (pc := 84) B Br dX9_count_84 ⟨congrArg (fun z => some (aI z)) ?_, ?_⟩
    · unfold vCount; repeat (first | rw [if_pos (by omega)] | rw [if_neg (by omega)])
      try first | rfl | (rw [show w - 1 = 0 by omega]; done) | (rw [show w - 1 = 1 by omega]; done)
    · first | exact ⟨b2.1.2.1, co_P b2.2⟩ | exact ⟨H0, co_rfl M⟩
