def apX (V : ax_M) (d h : Int) : Int := itI (fun e b => if cm V e h ≠ -3 ∧ apr V d e h = true then nO b (p2 e) else b) 0 d
theorem apX_C (V : ax_M) (d h : Int) (hd : 0 ≤ d) : apC V d h d (apX V d h) := by
  unfold apX
  refine itI_inv (fun n x => apC V d h n x) hd (apC_0 V d h) (fun i x a b q => ?_)
  split
  · exact apC_t a q (by assumption)
  · exact apC_f q (by assumption)
theorem apX_r (V : ax_M) {d : Int} (h : Int) (hd : 0 ≤ d ∧ d ≤ 8) : 0 ≤ apX V d h ∧ apX V d h < 256 := by
  unfold apX
  refine itI_inv (fun _ x => 0 ≤ x ∧ x < 256) hd.1 (by decide) (fun i x a b q => ?_)
  split
  · have h2 := p2_le (a := i) (b := 7) (by omega)
    have h3 : p2 7 = 128 := rfl
    have h4 := p2_pos i
    exact nO_lt 8 q ⟨by omega, by show _ < (256 : Int); omega⟩
  · exact q
set_option maxHeartbeats 4000000 in
set_option maxRecDepth 100000 in
theorem ct_X4_turnedBy (g : ax_G) (M : ax_M) (h : Int) (V : ax_M) (H0 : AgC V M) (H1 : RO V M) (H2 : 0 ≤ h ∧ h ≤ 7) : CT g md_X4_turnedBy 1 [aR 4, aI h] M (pI (trB V h (V 9 2)) (M)) := by
  refine ct_intro 2 rfl rfl ?_
  intro X hg B Br
  subst hg
  show AW X 0 [some (aR 4), some (aI h), none, none] [] M
  refine rr_rg (fun G0 => ?_)
  have HC := H0
  have N8 : 0 ≤ V 9 2 ∧ V 9 2 ≤ 8 := by have := G0.at ob_0_6.2.1; rw [HC.1] at this; exact this
  have HO := H1
  have L : ∀ nn : Nat, (∀ (b d : Int), (0 ≤ d ∧ d ≤ V 9 2) → (b = trB V h d) → (0 ≤ b ∧ b < 256) → ((8 - d).toNat) < nn → AW X 4 [some (aR 4), some (aI h), some (aI b), some (aI d)] [] M) ∧ True := by
    intro nn
    induction nn with
    | zero => exact ⟨by intros; omega, trivial⟩
    | succ nn ih =>
      refine ⟨?_, trivial⟩
      · intro b d K0 K1 K2 hm
        refine rr_iload3 (pc := 4) B dX4_turnedBy_4 ?_
        refine rr_aload0 (pc := 5) B dX4_turnedBy_5 ?_
        refine rr_getR (pc := 6) B dX4_turnedBy_6 fl_4_18 or_4_3 ?_
        refine rr_getR (pc := 9) B dX4_turnedBy_9 fl_4_77 or_2_0 ?_
        refine rr_getIE (pc := 12) B dX4_turnedBy_12 fl_4_81 ob_0_6 (HC.1) (fun b1 => ?_)
        refine rr_icmp_ge 42 (pc := 15) B dX4_turnedBy_15 (by decide) (by omega) (fun b2 => ?_) (fun b2 => ?_)
        · refine rr_iload2 (pc := 42) B dX4_turnedBy_42 ?_
          refine rr_ireturn (pc := 43) B Br dX4_turnedBy_43 ⟨congrArg (fun z => some (aI z)) ?_, ?_⟩
          · rw [K1, show d = V 9 2 by omega]
          · first | rfl | assumption
        · refine rr_aload0 (pc := 18) B dX4_turnedBy_18 ?_
          refine rr_getR (pc := 19) B dX4_turnedBy_19 fl_4_18 or_4_3 ?_
          refine rr_iload3 (pc := 22) B dX4_turnedBy_22 ?_
          refine rr_iload1 (pc := 23) B dX4_turnedBy_23 ?_
          refine rc_VI2 (pc := 24) B dX4_turnedBy_24 vm_X2_isTurned lk_4_86 so_2 rfl (ct_X2_isTurned _ _ _ _ V (HC) (by omega) (by omega) ((HO _ (by omega) (by omega)).1)) (Nat.le_of_ble_eq_true rfl) (Nat.le_of_ble_eq_true rfl) ?_
          refine rr_if_eqB 36 (pc := 27) B dX4_turnedBy_27 (by decide) (fun b3 => ?_) (fun b3 => ?_)
          · refine rr_iinc3 (z := 1) (pc := 36) B dX4_turnedBy_36 rfl ?_
            refine rr_goto 4 (pc := 39) B dX4_turnedBy_39 (by decide) ?_
            refine ih.1 _ _ ?_ ?_ ?_ ?_
            · omega
            · rw [show trB V h (d + 1) = nO (trB V h d) (if trn V d h = true then p2 d else 0) from itI_s _ _ (by omega), ← K1]; first | (rw [if_pos (by assumption)]; done) | (rw [if_neg (by simp_all), nO_0 K2.1]; done)
            · omega
            · omega
          · refine rr_iload2 (pc := 30) B dX4_turnedBy_30 ?_
            refine rr_iconst (z := 1) (pc := 31) B dX4_turnedBy_31 ?_
            refine rr_iload3 (pc := 32) B dX4_turnedBy_32 ?_
            refine rr_shl1 (pc := 33) B dX4_turnedBy_33 (by omega) (fun b4 => ?_)
            refine rr_orN 8 (pc := 34) B dX4_turnedBy_34 (by decide) (by have q2 := p2_le (a := d) (b := 7) (by omega); have q3 : p2 7 = 128 := rfl; omega) (fun b5 => ?_)
            refine rr_istore2 (pc := 35) B dX4_turnedBy_35 rfl ?_
            refine rr_iinc3 (z := 1) (pc := 36) B dX4_turnedBy_36 rfl ?_
            refine rr_goto 4 (pc := 39) B dX4_turnedBy_39 (by decide) ?_
            refine ih.1 _ _ ?_ ?_ ?_ ?_
            · omega
            · rw [show trB V h (d + 1) = nO (trB V h d) (if trn V d h = true then p2 d else 0) from itI_s _ _ (by omega), ← K1]; first | (rw [if_pos (by assumption)]; done) | (rw [if_neg (by simp_all), nO_0 K2.1]; done)
            · omega
            · omega
  refine rr_iconst (z := 0) (pc := 0) B dX4_turnedBy_0 ?_
  refine rr_istore2 (pc := 1) B dX4_turnedBy_1 rfl ?_
  refine rr_iconst (z := 0) (pc := 2) B dX4_turnedBy_2 ?_
  refine rr_istore3 (pc := 3) B dX4_turnedBy_3 rfl ?_
  refine (L _).1 _ _ ?_ ?_ ?_ (Nat.lt_succ_self _)
  · omega
  · rfl
  · omega
set_option maxHeartbeats 4000000 in
set_option maxRecDepth 100000 in
theorem ct_X4_apartFrom (g : ax_G) (M : ax_M) (d h : Int) (V : ax_M) (H0 : AgC V M) (H1 : RO V M) (H2 : 0 ≤ d ∧ d < V 9 2) (H3 : 0 ≤ h ∧ h ≤ 7) (H4 : cm V d h ≠ -3) : CT g md_X4_apartFrom 1 [aR 4, aI d, aI h] M (pI (apX V d h) (M)) := by
  refine ct_intro 2 rfl rfl ?_
  intro X hg B Br
  subst hg
  show AW X 0 [some (aR 4), some (aI d), some (aI h), none, none] [] M
  refine rr_rg (fun G0 => ?_)
  have HC := H0
  have N8 : 0 ≤ V 9 2 ∧ V 9 2 ≤ 8 := by have := G0.at ob_0_6.2.1; rw [HC.1] at this; exact this
  have HO := H1
  have L : ∀ nn : Nat, (∀ (b e : Int), (0 ≤ e ∧ e ≤ d) → (b = itI (fun e b => if cm V e h ≠ -3 ∧ apr V d e h = true then nO b (p2 e) else b) 0 e) → (0 ≤ b ∧ b < 256) → ((8 - e).toNat) < nn → AW X 5 [some (aR 4), some (aI d), some (aI h), some (aI b), some (aI e)] [] M) ∧ True := by
    intro nn
    induction nn with
    | zero => exact ⟨by intros; omega, trivial⟩
    | succ nn ih =>
      refine ⟨?_, trivial⟩
      · intro b e K0 K1 K2 hm
        refine rr_iload4 (pc := 5) B dX4_apartFrom_5 ?_
        refine rr_iload1 (pc := 7) B dX4_apartFrom_7 ?_
        refine rr_icmp_ge 51 (pc := 8) B dX4_apartFrom_8 (by decide) (by omega) (fun b1 => ?_) (fun b1 => ?_)
        · refine rr_iload3 (pc := 51) B dX4_apartFrom_51 ?_
          refine rr_ireturn (pc := 52) B Br dX4_apartFrom_52 ⟨congrArg (fun z => some (aI z)) ?_, ?_⟩
          · rw [K1, show e = d by omega]; rfl
          · first | rfl | assumption
        · refine rr_aload0 (pc := 11) B dX4_apartFrom_11 ?_
          refine rr_getR (pc := 12) B dX4_apartFrom_12 fl_4_18 or_4_3 ?_
          refine rr_iload4 (pc := 15) B dX4_apartFrom_15 ?_
          refine rr_iload2 (pc := 17) B dX4_apartFrom_17 ?_
          refine rc_VI2 (pc := 18) B dX4_apartFrom_18 vm_X2_isOpen lk_4_90 so_2 rfl (ct_X2_isOpen _ _ _ _ V (HC) (HO) (by omega) (by omega)) (Nat.le_of_ble_eq_true rfl) (Nat.le_of_ble_eq_true rfl) ?_
          refine rr_if_eqB 45 (pc := 21) B dX4_apartFrom_21 (by decide) (fun b2 => ?_) (fun b2 => ?_)
          · replace b2 := of_decide_eq_false b2
            refine rr_iinc4 (z := 1) (pc := 45) B dX4_apartFrom_45 rfl ?_
            refine rr_goto 5 (pc := 48) B dX4_apartFrom_48 (by decide) ?_
            refine ih.1 _ _ ?_ ?_ ?_ ?_
            · omega
            · rw [itI_s _ _ (by omega), ← K1]; first | (rw [if_pos ⟨by assumption, by assumption⟩]; done) | (rw [if_neg (by rintro ⟨q1, q2⟩; first | omega | (simp_all; done))]; done)
            · omega
            · omega
          · replace b2 := of_decide_eq_true b2
            refine rr_aload0 (pc := 24) B dX4_apartFrom_24 ?_
            refine rr_getR (pc := 25) B dX4_apartFrom_25 fl_4_18 or_4_3 ?_
            refine rr_iload1 (pc := 28) B dX4_apartFrom_28 ?_
            refine rr_iload4 (pc := 29) B dX4_apartFrom_29 ?_
            refine rr_iload2 (pc := 31) B dX4_apartFrom_31 ?_
            refine rc_VI3 (pc := 32) B dX4_apartFrom_32 vm_X2_areApart lk_4_103 so_2 rfl (ct_X2_areApart _ _ _ _ _ V (HC) (HO) (by omega) (by omega) (by omega) (by exact H4) (by assumption)) (Nat.le_of_ble_eq_true rfl) (Nat.le_of_ble_eq_true rfl) ?_
            refine rr_if_eqB 45 (pc := 35) B dX4_apartFrom_35 (by decide) (fun b3 => ?_) (fun b3 => ?_)
            · refine rr_iinc4 (z := 1) (pc := 45) B dX4_apartFrom_45 rfl ?_
              refine rr_goto 5 (pc := 48) B dX4_apartFrom_48 (by decide) ?_
              refine ih.1 _ _ ?_ ?_ ?_ ?_
              · omega
              · rw [itI_s _ _ (by omega), ← K1]; first | (rw [if_pos ⟨by assumption, by assumption⟩]; done) | (rw [if_neg (by rintro ⟨q1, q2⟩; first | omega | (simp_all; done))]; done)
              · omega
              · omega
            · refine rr_iload3 (pc := 38) B dX4_apartFrom_38 ?_
              refine rr_iconst (z := 1) (pc := 39) B dX4_apartFrom_39 ?_
              refine rr_iload4 (pc := 40) B dX4_apartFrom_40 ?_
              refine rr_shl1 (pc := 42) B dX4_apartFrom_42 (by omega) (fun b4 => ?_)
              refine rr_orN 8 (pc := 43) B dX4_apartFrom_43 (by decide) (by have q2 := p2_le (a := e) (b := 7) (by omega); have q3 : p2 7 = 128 := rfl; omega) (fun b5 => ?_)
              refine rr_istore3 (pc := 44) B dX4_apartFrom_44 rfl ?_
              refine rr_iinc4 (z := 1) (pc := 45) B dX4_apartFrom_45 rfl ?_
              refine rr_goto 5 (pc := 48) B dX4_apartFrom_48 (by decide) ?_
              refine ih.1 _ _ ?_ ?_ ?_ ?_
              · omega
              · rw [itI_s _ _ (by omega), ← K1]; first | (rw [if_pos ⟨by assumption, by assumption⟩]; done) | (rw [if_neg (by rintro ⟨q1, q2⟩; first | omega | (simp_all; done))]; done)
              · omega
              · omega
  refine rr_iconst (z := 0) (pc := 0) B dX4_apartFrom_0 ?_
  refine rr_istore3 (pc := 1) B dX4_apartFrom_1 rfl ?_
  refine rr_iconst (z := 0) (pc := 2) B dX4_apartFrom_2 ?_
  refine rr_istore4 (pc := 3) B dX4_apartFrom_3 rfl ?_
  refine (L _).1 _ _ ?_ ?_ ?_ (Nat.lt_succ_self _)
  · omega
  · rfl
  · omega
set_option maxHeartbeats 16000000 in
set_option maxRecDepth 100000 in
theorem ct_X4_reckonTogether (g : ax_G) (M : ax_M) (h : Int) (V : ax_M) (H0 : AgC V M) (H1 : RO V M) (H2 : 0 ≤ h ∧ h ≤ 7) : CT g md_X4_reckonTogether 2 [aR 4, aI h] M (pVR (fun M2 => (∀ t, 0 ≤ t → t < p2 (V 9 2) → M2 29 t = tg V h t) ∧ frm (exK 29) M M2)) := by
  refine ct_intro 8 rfl rfl ?_
  intro X hg B Br
  subst hg
  show AW X 0 [some (aR 4), some (aI h), none, none, none, none, none, none, none, none] [] M
  refine rr_rg (fun G0 => ?_)
  have HC := H0
  have N8 : 0 ≤ V 9 2 ∧ V 9 2 ≤ 8 := by have := G0.at ob_0_6.2.1; rw [HC.1] at this; exact this
  have HO := H1
  have P57 : ∀ p, 0 ≤ p → p < 8 → 0 ≤ V 57 p ∧ V 57 p ≤ 99 := fun p a b => by have := G0.at (sa_15.2.2 (p * 4 + 2)); rw [(HC.2.2.1 p a (by omega)).2.2.1] at this; exact this
  have N256 : p2 (V 9 2) ≤ 256 := by have := p2_le (a := V 9 2) (b := 8) N8.2; have e : p2 8 = 256 := rfl; omega
  have TL := fun t => tg_lt (V := V) (h := h) (t := t) N8 H2 P57
  have L : ∀ nn : Nat, (∀ (M1 : ax_M) (d : Int) (w3 w4 w5 w6 w7 w8 w9 : Option ax_V), (0 ≤ d ∧ d ≤ V 9 2) → (frm (exK 29) M M1) → (∀ t, 0 ≤ t → t < p2 d → M1 29 t = tg V h t) → ((1000 * (8 - d) + 999).toNat) < nn → AW X 9 [some (aR 4), some (aI h), some (aI d), w3, w4, w5, w6, w7, w8, w9] [] M1) ∧ (∀ (M1 : ax_M) (d ap own rest : Int) (w9 : Option ax_V), (0 ≤ d ∧ d < V 9 2) → (frm (exK 29) M M1) → (∀ t, 0 ≤ t → t < p2 d + rest → M1 29 t = tg V h t) → (cm V d h ≠ -3 → apC V d h d ap) → (0 ≤ ap ∧ ap < 256) → (own = M 22 (d * 8 + h) * 43046721 + (h + 1) * wq d) → (0 ≤ rest ∧ rest ≤ p2 d) → ((1000 * (8 - d) + 500 - rest).toNat) < nn → AW X 84 [some (aR 4), some (aI h), some (aI d), some (aI (bi (decide (cm V d h ≠ -3)))), some (aI ap), some (aL own), none, some (aI (p2 d)), some (aI rest), w9] [] M1) ∧ True := by
    intro nn
    induction nn with
    | zero => exact ⟨by intros; omega, by intros; omega, trivial⟩
    | succ nn ih =>
      refine ⟨?_, ?_, trivial⟩
      · intro M1 d w3 w4 w5 w6 w7 w8 w9 K0 K1 K2 hm
        refine rr_rg (fun G1 => ?_)
        have K1q : frm exQ M M1 := frm_mono K1 (fun k i e => by unfold exQ at e; have e := of_decide_eq_false e; exact decide_eq_false (by omega))
        refine rr_iload2 (pc := 9) B dX4_reckonTogether_9 ?_
        refine rr_aload0 (pc := 10) B dX4_reckonTogether_10 ?_
        refine rr_getR (pc := 11) B dX4_reckonTogether_11 fl_4_18 or_4_3 ?_
        refine rr_getR (pc := 14) B dX4_reckonTogether_14 fl_4_77 or_2_0 ?_
        refine rr_getIE (pc := 17) B dX4_reckonTogether_17 fl_4_81 ob_0_6 ((agc_Q H0 K1q).1) (fun b1 => ?_)
        refine rr_icmp_ge 167 (pc := 20) B dX4_reckonTogether_20 (by decide) (by omega) (fun b2 => ?_) (fun b2 => ?_)
        · refine rr_return (pc := 167) B Br dX4_reckonTogether_167 ⟨rfl, ?_⟩
          · exact ⟨fun t a b => K2 t a (by rw [show d = V 9 2 by omega]; exact b), K1⟩
        · refine rr_aload0 (pc := 23) B dX4_reckonTogether_23 ?_
          refine rr_getR (pc := 24) B dX4_reckonTogether_24 fl_4_18 or_4_3 ?_
          refine rr_iload2 (pc := 27) B dX4_reckonTogether_27 ?_
          refine rr_iload1 (pc := 28) B dX4_reckonTogether_28 ?_
          refine rc_VI2 (pc := 29) B dX4_reckonTogether_29 vm_X2_isOpen lk_4_90 so_2 rfl (ct_X2_isOpen _ _ _ _ V (agc_Q H0 K1q) (ro_Q H1 K1q) (by omega) (by omega)) (Nat.le_of_ble_eq_true rfl) (Nat.le_of_ble_eq_true rfl) ?_
          refine rr_istore3 (pc := 32) B dX4_reckonTogether_32 rfl ?_
          refine rr_iload3 (pc := 33) B dX4_reckonTogether_33 ?_
          refine rr_if_eqB 46 (pc := 34) B dX4_reckonTogether_34 (by decide) (fun b3 => ?_) (fun b3 => ?_)
          · replace b3 := of_decide_eq_false b3
            refine rr_iconst (z := 0) (pc := 46) B dX4_reckonTogether_46 ?_
            refine rr_istore4 (pc := 47) B dX4_reckonTogether_47 rfl ?_
            refine rr_aload0 (pc := 49) B dX4_reckonTogether_49 ?_
            refine rr_getR (pc := 50) B dX4_reckonTogether_50 fl_4_18 or_4_3 ?_
            refine rr_iload2 (pc := 53) B dX4_reckonTogether_53 ?_
            refine rr_iload1 (pc := 54) B dX4_reckonTogether_54 ?_
            refine rc_VI2 (pc := 55) B dX4_reckonTogether_55 vm_X2_priceOfPeople lk_4_97 so_2 rfl (ct_X2_priceOfPeople _ _ _ _  (by omega) (by omega)) (Nat.le_of_ble_eq_true rfl) (Nat.le_of_ble_eq_true rfl) ?_
            refine rr_i2l (pc := 58) B dX4_reckonTogether_58 (by have := G1.at (sa_22.2.2 (d * 8 + h)); omega) ?_
            refine rr_ldc2 (z := 43046721) (pc := 59) B dX4_reckonTogether_59 cn_4_71 (by decide) ?_
            refine rr_lmul (pc := 62) B dX4_reckonTogether_62 ?_
            refine rr_iload1 (pc := 63) B dX4_reckonTogether_63 ?_
            refine rr_iconst (z := 1) (pc := 64) B dX4_reckonTogether_64 ?_
            refine rr_iadd (pc := 65) B dX4_reckonTogether_65 ?_
            refine rr_i2l (pc := 66) B dX4_reckonTogether_66 (by omega) ?_
            refine rr_gets (pc := 67) B dX4_reckonTogether_67 B.2.2.2.2.2.2.1.2.2 (ax_in 647 (by decide +kernel) rfl) ?_
            refine rr_iload2 (pc := 70) B dX4_reckonTogether_70 ?_
            refine rr_tl (pc := 71) B dX4_reckonTogether_71 B.2.2.2.2.2.2.1.2.2 (by decide) (by omega) ?_
            refine rr_lmul (pc := 72) B dX4_reckonTogether_72 ?_
            refine rr_ladd (pc := 73) B dX4_reckonTogether_73 ?_
            refine rr_lstore5 (pc := 74) B dX4_reckonTogether_74 rfl ?_
            refine rr_iconst (z := 1) (pc := 76) B dX4_reckonTogether_76 ?_
            refine rr_iload2 (pc := 77) B dX4_reckonTogether_77 ?_
            refine rr_shl1 (pc := 78) B dX4_reckonTogether_78 (by omega) (fun b4 => ?_)
            refine rr_istore7 (pc := 79) B dX4_reckonTogether_79 rfl ?_
            refine rr_iconst (z := 0) (pc := 81) B dX4_reckonTogether_81 ?_
            refine rr_istore8 (pc := 82) B dX4_reckonTogether_82 rfl ?_
            refine ih.2.1 _ _ _ _ _ _ ?_ ?_ ?_ ?_ ?_ ?_ ?_ ?_
            · omega
            · exact K1
            · intro t a b; exact K2 t a (by omega)
            · first | (intro _; exact (apX_C V d h K0.1)) | (intro q; exact absurd q (by assumption))
            · first | omega | exact apX_r V (d := d) h (by omega)
            · rw [show M1 22 (d * 8 + h) = M 22 (d * 8 + h) from K1 22 _ rfl]; rfl
            · have := p2_pos d; omega
            · omega
          · replace b3 := of_decide_eq_true b3
            refine rr_aload0 (pc := 37) B dX4_reckonTogether_37 ?_
            refine rr_iload2 (pc := 38) B dX4_reckonTogether_38 ?_
            refine rr_iload1 (pc := 39) B dX4_reckonTogether_39 ?_
            refine rc_VI2 (pc := 40) B dX4_reckonTogether_40 vm_X4_apartFrom lk_4_93 so_4 rfl (ct_X4_apartFrom _ _ _ _ V (agc_Q H0 K1q) (ro_Q H1 K1q) (by omega) (by omega) (by assumption)) (Nat.le_of_ble_eq_true rfl) (Nat.le_of_ble_eq_true rfl) ?_
            refine rr_goto 47 (pc := 43) B dX4_reckonTogether_43 (by decide) ?_
            refine rr_istore4 (pc := 47) B dX4_reckonTogether_47 rfl ?_
            refine rr_aload0 (pc := 49) B dX4_reckonTogether_49 ?_
            refine rr_getR (pc := 50) B dX4_reckonTogether_50 fl_4_18 or_4_3 ?_
            refine rr_iload2 (pc := 53) B dX4_reckonTogether_53 ?_
            refine rr_iload1 (pc := 54) B dX4_reckonTogether_54 ?_
            refine rc_VI2 (pc := 55) B dX4_reckonTogether_55 vm_X2_priceOfPeople lk_4_97 so_2 rfl (ct_X2_priceOfPeople _ _ _ _  (by omega) (by omega)) (Nat.le_of_ble_eq_true rfl) (Nat.le_of_ble_eq_true rfl) ?_
            refine rr_i2l (pc := 58) B dX4_reckonTogether_58 (by have := G1.at (sa_22.2.2 (d * 8 + h)); omega) ?_
            refine rr_ldc2 (z := 43046721) (pc := 59) B dX4_reckonTogether_59 cn_4_71 (by decide) ?_
            refine rr_lmul (pc := 62) B dX4_reckonTogether_62 ?_
            refine rr_iload1 (pc := 63) B dX4_reckonTogether_63 ?_
            refine rr_iconst (z := 1) (pc := 64) B dX4_reckonTogether_64 ?_
            refine rr_iadd (pc := 65) B dX4_reckonTogether_65 ?_
            refine rr_i2l (pc := 66) B dX4_reckonTogether_66 (by omega) ?_
            refine rr_gets (pc := 67) B dX4_reckonTogether_67 B.2.2.2.2.2.2.1.2.2 (ax_in 647 (by decide +kernel) rfl) ?_
            refine rr_iload2 (pc := 70) B dX4_reckonTogether_70 ?_
            refine rr_tl (pc := 71) B dX4_reckonTogether_71 B.2.2.2.2.2.2.1.2.2 (by decide) (by omega) ?_
            refine rr_lmul (pc := 72) B dX4_reckonTogether_72 ?_
            refine rr_ladd (pc := 73) B dX4_reckonTogether_73 ?_
            refine rr_lstore5 (pc := 74) B dX4_reckonTogether_74 rfl ?_
            refine rr_iconst (z := 1) (pc := 76) B dX4_reckonTogether_76 ?_
            refine rr_iload2 (pc := 77) B dX4_reckonTogether_77 ?_
            refine rr_shl1 (pc := 78) B dX4_reckonTogether_78 (by omega) (fun b4 => ?_)
            refine rr_istore7 (pc := 79) B dX4_reckonTogether_79 rfl ?_
            refine rr_iconst (z := 0) (pc := 81) B dX4_reckonTogether_81 ?_
            refine rr_istore8 (pc := 82) B dX4_reckonTogether_82 rfl ?_
            refine ih.2.1 _ _ _ _ _ _ ?_ ?_ ?_ ?_ ?_ ?_ ?_ ?_
            · omega
            · exact K1
            · intro t a b; exact K2 t a (by omega)
            · first | (intro _; exact (apX_C V d h K0.1)) | (intro q; exact absurd q (by assumption))
            · first | omega | exact apX_r V (d := d) h (by omega)
            · rw [show M1 22 (d * 8 + h) = M 22 (d * 8 + h) from K1 22 _ rfl]; rfl
            · have := p2_pos d; omega
            · omega
      · intro M1 d ap own rest w9 K0 K1 K2 K3 K4 K5 K6 hm
        refine rr_rg (fun G1 => ?_)
        have K1q : frm exQ M M1 := frm_mono K1 (fun k i e => by unfold exQ at e; have e := of_decide_eq_false e; exact decide_eq_false (by omega))
        have P7 := p2_pos d
        have P8 : 2 * p2 d ≤ 256 := by rw [← p2_s K0.1]; have := p2_le (a := d + 1) (b := V 9 2) (by omega); omega
        have OK1 : cm V d h ≠ -3 → nA rest ap = 0 → M1 29 rest < 1152921504606846976 → (okT V rest h = true ∧ cm V d h ≠ -3 ∧ ∀ e, 0 ≤ e → e < d → tb rest e = true → apr V d e h = false) := fun q1 q2 q3 => by
          have o1 : okT V rest h = true := (TL rest).1.mp (by rw [← K2 rest K6.1 (by omega)]; exact q3)
          refine ⟨o1, q1, fun e a b t => ?_⟩
          cases q : apr V d e h with
          | false => rfl
          | true =>
            have := ((K3 q1).2 e a).mpr ⟨b, ((okT_set N8.1).mp o1 e a (by omega) t).1, q⟩
            exact absurd (nA_ne.mpr ⟨e, a, t, this⟩) (by omega)
        have OK2 : (okT V rest h = true ∧ cm V d h ≠ -3 ∧ ∀ e, 0 ≤ e → e < d → tb rest e = true → apr V d e h = false) → nA rest ap ≠ 0 → False := fun q1 q2 => by
          obtain ⟨e, a, t1, t2⟩ := nA_ne.mp q2
          have z := ((K3 q1.2.1).2 e a).mp t2
          rw [q1.2.2 e a z.1 t1] at z
          exact absurd z.2.2 (by decide)
        refine rr_iload8 (pc := 84) B dX4_reckonTogether_84 ?_
        refine rr_iload7 (pc := 86) B dX4_reckonTogether_86 ?_
        refine rr_icmp_ge 161 (pc := 88) B dX4_reckonTogether_88 (by decide) (by omega) (fun b1 => ?_) (fun b1 => ?_)
        · refine rr_iinc2 (z := 1) (pc := 161) B dX4_reckonTogether_161 rfl ?_
          refine rr_goto 9 (pc := 164) B dX4_reckonTogether_164 (by decide) ?_
          refine ih.1 _ _ _ _ _ _ _ _ _ ?_ ?_ ?_ ?_
          · omega
          · exact K1
          · rw [p2_s K0.1]; intro t a b; exact K2 t a (by omega)
          · omega
        · refine rr_iload3 (pc := 91) B dX4_reckonTogether_91 ?_
          refine rr_if_eqB 121 (pc := 92) B dX4_reckonTogether_92 (by decide) (fun b2 => ?_) (fun b2 => ?_)
          · replace b2 := of_decide_eq_false b2
            refine rr_iconst (z := 0) (pc := 121) B dX4_reckonTogether_121 ?_
            refine rr_istore9 (pc := 122) B dX4_reckonTogether_122 rfl ?_
            refine rr_aload0 (pc := 124) B dX4_reckonTogether_124 ?_
            refine rr_getR (pc := 125) B dX4_reckonTogether_125 fl_4_29 or_4_6 ?_
            refine rr_iload7 (pc := 128) B dX4_reckonTogether_128 ?_
            refine rr_iload8 (pc := 130) B dX4_reckonTogether_130 ?_
            refine rr_iadd (pc := 132) B dX4_reckonTogether_132 ?_
            refine rr_iload9 (pc := 133) B dX4_reckonTogether_133 ?_
            refine rr_if_eq 151 (pc := 135) B dX4_reckonTogether_135 (by decide) (by omega) (fun b3 => ?_) (fun b3 => absurd b3 (by omega))
            refine rr_ldc2 (z := 1152921504606846976) (pc := 151) B dX4_reckonTogether_151 cn_4_40 (by decide) ?_
            refine rr_lastore (pc := 154) B dX4_reckonTogether_154 sa_29 (by omega) (by first | (have y := K2 rest (by omega) (by omega); have z := (TL rest).2; have w := wq_r d; have r22 := G0.at (sa_22.2.2 (d * 8 + h)); have m := mulB (a := h + 1) (b := wq d) (A := 8) (B := 4782969) (by omega) (by omega); have O := OK1 (by assumption) (by assumption) (by assumption); have o4 := z.2.2 O.1; omega) | decide) ?_
            refine rr_iinc8 (z := 1) (pc := 155) B dX4_reckonTogether_155 rfl ?_
            refine rr_goto 84 (pc := 158) B dX4_reckonTogether_158 (by decide) ?_
            refine ih.2.1 _ _ _ _ _ _ ?_ ?_ ?_ ?_ ?_ ?_ ?_ ?_
            · omega
            · exact frm_ms K1 rfl
            · intro t a b
              by_cases q : t = p2 d + rest
              · subst q
                rw [ms_at]
                first
                  | (have O := OK1 (by assumption) (by assumption) (by omega)
                     rw [tg_s N8 K0 (by omega) O, K2 rest (by omega) (by omega), K5, ((HO d (by omega) (by omega)).2.2 h (by omega) (by omega)).2 O.2.1]
                     rfl)
                  | (rw [tg_n N8 K0 (by omega) (fun O => by first | exact absurd O.2.1 (by assumption) | exact OK2 O (by assumption) | (have z := (TL rest).1.mpr O.1; have y := K2 rest (by omega) (by omega); unfold NV at z; omega))]; rfl)
              · rw [ms_off q]; exact K2 t a (by omega)
            · exact K3
            · exact K4
            · exact K5
            · omega
            · omega
          · replace b2 := of_decide_eq_true b2
            refine rr_iload8 (pc := 95) B dX4_reckonTogether_95 ?_
            refine rr_iload4 (pc := 97) B dX4_reckonTogether_97 ?_
            refine rr_andN (pc := 99) B dX4_reckonTogether_99 (by omega) (fun b3 => ?_)
            refine rr_if_ne 121 (pc := 100) B dX4_reckonTogether_100 (by decide) (by omega) (fun b4 => ?_) (fun b4 => ?_)
            · refine rr_iconst (z := 0) (pc := 121) B dX4_reckonTogether_121 ?_
              refine rr_istore9 (pc := 122) B dX4_reckonTogether_122 rfl ?_
              refine rr_aload0 (pc := 124) B dX4_reckonTogether_124 ?_
              refine rr_getR (pc := 125) B dX4_reckonTogether_125 fl_4_29 or_4_6 ?_
              refine rr_iload7 (pc := 128) B dX4_reckonTogether_128 ?_
              refine rr_iload8 (pc := 130) B dX4_reckonTogether_130 ?_
              refine rr_iadd (pc := 132) B dX4_reckonTogether_132 ?_
              refine rr_iload9 (pc := 133) B dX4_reckonTogether_133 ?_
              refine rr_if_eq 151 (pc := 135) B dX4_reckonTogether_135 (by decide) (by omega) (fun b5 => ?_) (fun b5 => absurd b5 (by omega))
              refine rr_ldc2 (z := 1152921504606846976) (pc := 151) B dX4_reckonTogether_151 cn_4_40 (by decide) ?_
              refine rr_lastore (pc := 154) B dX4_reckonTogether_154 sa_29 (by omega) (by first | (have y := K2 rest (by omega) (by omega); have z := (TL rest).2; have w := wq_r d; have r22 := G0.at (sa_22.2.2 (d * 8 + h)); have m := mulB (a := h + 1) (b := wq d) (A := 8) (B := 4782969) (by omega) (by omega); have O := OK1 (by assumption) (by assumption) (by assumption); have o4 := z.2.2 O.1; omega) | decide) ?_
              refine rr_iinc8 (z := 1) (pc := 155) B dX4_reckonTogether_155 rfl ?_
              refine rr_goto 84 (pc := 158) B dX4_reckonTogether_158 (by decide) ?_
              refine ih.2.1 _ _ _ _ _ _ ?_ ?_ ?_ ?_ ?_ ?_ ?_ ?_
              · omega
              · exact frm_ms K1 rfl
              · intro t a b
                by_cases q : t = p2 d + rest
                · subst q
                  rw [ms_at]
                  first
                    | (have O := OK1 (by assumption) (by assumption) (by omega)
                       rw [tg_s N8 K0 (by omega) O, K2 rest (by omega) (by omega), K5, ((HO d (by omega) (by omega)).2.2 h (by omega) (by omega)).2 O.2.1]
                       rfl)
                    | (rw [tg_n N8 K0 (by omega) (fun O => by first | exact absurd O.2.1 (by assumption) | exact OK2 O (by assumption) | (have z := (TL rest).1.mpr O.1; have y := K2 rest (by omega) (by omega); unfold NV at z; omega))]; rfl)
                · rw [ms_off q]; exact K2 t a (by omega)
              · exact K3
              · exact K4
              · exact K5
              · omega
              · omega
            · refine rr_aload0 (pc := 103) B dX4_reckonTogether_103 ?_
              refine rr_getR (pc := 104) B dX4_reckonTogether_104 fl_4_29 or_4_6 ?_
              refine rr_iload8 (pc := 107) B dX4_reckonTogether_107 ?_
              refine rr_laload (pc := 109) B dX4_reckonTogether_109 sa_29 (by omega) (fun b5 => ?_)
              refine rr_ldc2 (z := 1152921504606846976) (pc := 110) B dX4_reckonTogether_110 cn_4_40 (by decide) ?_
              refine rr_lcmp_ge 121 (pc := 113) B dX4_reckonTogether_113 dX4_reckonTogether_114 (by decide) (by omega) (fun b6 => ?_) (fun b6 => ?_)
              · refine rr_iconst (z := 0) (pc := 121) B dX4_reckonTogether_121 ?_
                refine rr_istore9 (pc := 122) B dX4_reckonTogether_122 rfl ?_
                refine rr_aload0 (pc := 124) B dX4_reckonTogether_124 ?_
                refine rr_getR (pc := 125) B dX4_reckonTogether_125 fl_4_29 or_4_6 ?_
                refine rr_iload7 (pc := 128) B dX4_reckonTogether_128 ?_
                refine rr_iload8 (pc := 130) B dX4_reckonTogether_130 ?_
                refine rr_iadd (pc := 132) B dX4_reckonTogether_132 ?_
                refine rr_iload9 (pc := 133) B dX4_reckonTogether_133 ?_
                refine rr_if_eq 151 (pc := 135) B dX4_reckonTogether_135 (by decide) (by omega) (fun b7 => ?_) (fun b7 => absurd b7 (by omega))
                refine rr_ldc2 (z := 1152921504606846976) (pc := 151) B dX4_reckonTogether_151 cn_4_40 (by decide) ?_
                refine rr_lastore (pc := 154) B dX4_reckonTogether_154 sa_29 (by omega) (by first | (have y := K2 rest (by omega) (by omega); have z := (TL rest).2; have w := wq_r d; have r22 := G0.at (sa_22.2.2 (d * 8 + h)); have m := mulB (a := h + 1) (b := wq d) (A := 8) (B := 4782969) (by omega) (by omega); have O := OK1 (by assumption) (by assumption) (by assumption); have o4 := z.2.2 O.1; omega) | decide) ?_
                refine rr_iinc8 (z := 1) (pc := 155) B dX4_reckonTogether_155 rfl ?_
                refine rr_goto 84 (pc := 158) B dX4_reckonTogether_158 (by decide) ?_
                refine ih.2.1 _ _ _ _ _ _ ?_ ?_ ?_ ?_ ?_ ?_ ?_ ?_
                · omega
                · exact frm_ms K1 rfl
                · intro t a b
                  by_cases q : t = p2 d + rest
                  · subst q
                    rw [ms_at]
                    first
                      | (have O := OK1 (by assumption) (by assumption) (by omega)
                         rw [tg_s N8 K0 (by omega) O, K2 rest (by omega) (by omega), K5, ((HO d (by omega) (by omega)).2.2 h (by omega) (by omega)).2 O.2.1]
                         rfl)
                      | (rw [tg_n N8 K0 (by omega) (fun O => by first | exact absurd O.2.1 (by assumption) | exact OK2 O (by assumption) | (have z := (TL rest).1.mpr O.1; have y := K2 rest (by omega) (by omega); unfold NV at z; omega))]; rfl)
                  · rw [ms_off q]; exact K2 t a (by omega)
                · exact K3
                · exact K4
                · exact K5
                · omega
                · omega
              · refine rr_iconst (z := 1) (pc := 117) B dX4_reckonTogether_117 ?_
                refine rr_goto 122 (pc := 118) B dX4_reckonTogether_118 (by decide) ?_
                refine rr_istore9 (pc := 122) B dX4_reckonTogether_122 rfl ?_
                refine rr_aload0 (pc := 124) B dX4_reckonTogether_124 ?_
                refine rr_getR (pc := 125) B dX4_reckonTogether_125 fl_4_29 or_4_6 ?_
                refine rr_iload7 (pc := 128) B dX4_reckonTogether_128 ?_
                refine rr_iload8 (pc := 130) B dX4_reckonTogether_130 ?_
                refine rr_iadd (pc := 132) B dX4_reckonTogether_132 ?_
                refine rr_iload9 (pc := 133) B dX4_reckonTogether_133 ?_
                refine rr_if_eq 151 (pc := 135) B dX4_reckonTogether_135 (by decide) (by omega) (fun b7 => absurd b7 (by omega)) (fun b7 => ?_)
                refine rr_aload0 (pc := 138) B dX4_reckonTogether_138 ?_
                refine rr_getR (pc := 139) B dX4_reckonTogether_139 fl_4_29 or_4_6 ?_
                refine rr_iload8 (pc := 142) B dX4_reckonTogether_142 ?_
                refine rr_laload (pc := 144) B dX4_reckonTogether_144 sa_29 (by omega) (fun b8 => ?_)
                refine rr_lload5 (pc := 145) B dX4_reckonTogether_145 ?_
                refine rr_ladd (pc := 147) B dX4_reckonTogether_147 ?_
                refine rr_goto 154 (pc := 148) B dX4_reckonTogether_148 (by decide) ?_
                refine rr_lastore (pc := 154) B dX4_reckonTogether_154 sa_29 (by omega) (by first | (have y := K2 rest (by omega) (by omega); have z := (TL rest).2; have w := wq_r d; have r22 := G0.at (sa_22.2.2 (d * 8 + h)); have m := mulB (a := h + 1) (b := wq d) (A := 8) (B := 4782969) (by omega) (by omega); have O := OK1 (by assumption) (by assumption) (by assumption); have o4 := z.2.2 O.1; omega) | decide) ?_
                refine rr_iinc8 (z := 1) (pc := 155) B dX4_reckonTogether_155 rfl ?_
                refine rr_goto 84 (pc := 158) B dX4_reckonTogether_158 (by decide) ?_
                refine ih.2.1 _ _ _ _ _ _ ?_ ?_ ?_ ?_ ?_ ?_ ?_ ?_
                · omega
                · exact frm_ms K1 rfl
                · intro t a b
                  by_cases q : t = p2 d + rest
                  · subst q
                    rw [ms_at]
                    first
                      | (have O := OK1 (by assumption) (by assumption) (by omega)
                         rw [tg_s N8 K0 (by omega) O, K2 rest (by omega) (by omega), K5, ((HO d (by omega) (by omega)).2.2 h (by omega) (by omega)).2 O.2.1]
                         rfl)
                      | (rw [tg_n N8 K0 (by omega) (fun O => by first | exact absurd O.2.1 (by assumption) | exact OK2 O (by assumption) | (have z := (TL rest).1.mpr O.1; have y := K2 rest (by omega) (by omega); unfold NV at z; omega))]; rfl)
                  · rw [ms_off q]; exact K2 t a (by omega)
                · exact K3
                · exact K4
                · exact K5
                · omega
                · omega
  refine rr_aload0 (pc := 0) B dX4_reckonTogether_0 ?_
  refine rr_getR (pc := 1) B dX4_reckonTogether_1 fl_4_29 or_4_6 ?_
  refine rr_iconst (z := 0) (pc := 4) B dX4_reckonTogether_4 ?_
  refine rr_lconst0 (pc := 5) B dX4_reckonTogether_5 ?_
  refine rr_lastore (pc := 6) B dX4_reckonTogether_6 sa_29 (by omega) (by omega) ?_
  refine rr_iconst (z := 0) (pc := 7) B dX4_reckonTogether_7 ?_
  refine rr_istore2 (pc := 8) B dX4_reckonTogether_8 rfl ?_
  refine (L _).1 _ _ _ _ _ _ _ _ _ ?_ ?_ ?_ (Nat.lt_succ_self _)
  · omega
  · exact frm_ms frm_rfl rfl
  · intro t a b
    rw [show t = 0 by have e : p2 0 = 1 := rfl; omega, ms_at, tg_0 h N8.1]
