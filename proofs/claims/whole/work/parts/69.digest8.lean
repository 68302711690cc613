theorem rOf_r {S M : ax_M} (hg : RG M) (sr : SR S) (h : RC S M) {k : Int} (hk : 0 ≤ k ∧ k ≤ 3) (w : Int) : 0 ≤ rOf (vw S) k w ∧ rOf (vw S) k w ≤ 4 := by
  have z := ((RC_ag sr h).2.2.2.2.2 k (by omega) (by omega)).1
  have y := hg.at (sa_30.2.2 k)
  have r := RC_r5 hg h k hk
  have n : 0 ≤ vw S 52 k ∧ vw S 52 k ≤ 4 := by
    rw [← z]
    split <;> omega
  unfold rOf
  split
  · exact n
  · split <;> omega
theorem i3 {α : Type} (f : Int → α → α) (a : α) : itI f a 3 = f 2 (f 1 (f 0 a)) := rfl
set_option maxHeartbeats 4000000 in
set_option maxRecDepth 100000 in
theorem ct_X8_whenR (g : ax_G) (M : ax_M) (d : Int) (S : ax_M) (H0 : RC S M) (H1 : SI S) (H2 : SR S) (H3 : -2147483648 ≤ d ∧ d ≤ 2147483647) : CT g md_X8_when 5 [aR 8, aI d] M (pIR (vWhen S d) (fun M2 => RC S M2 ∧ mo M M2 ∧ -2 ≤ vWhen S d ∧ vWhen S d ≤ 7)) := by
  refine ct_intro 0 rfl rfl ?_
  intro X hg B Br
  subst hg
  show AW X 0 [some (aR 8), some (aI d)] [] M
  refine rr_rg (fun G0 => ?_)
  have N8 := vw_n8 H2
  refine rr_aload0 (pc := 0) B dX8_when_0 ?_
  refine rr_iload1 (pc := 1) B dX8_when_1 ?_
  refine rc_VI1 (pc := 2) B dX8_when_2 vm_X8_isDeed lk_8_104 so_8 rfl (ct_X8_isDeed _ _ _ _ (by first | exact H0 | exact H1 | exact H2 | omega) (by first | exact H0 | exact H1 | exact H2 | omega)) (Nat.le_of_ble_eq_true rfl) (Nat.le_of_ble_eq_true rfl) ?_
  refine rr_if_neB 11 (pc := 5) B dX8_when_5 (by decide) (fun b1 => ?_) (fun b1 => ?_)
  · replace b1 := of_decide_eq_true b1
    refine rr_aload0 (pc := 11) B dX8_when_11 ?_
    refine rc_VVR0 (pc := 12) B dX8_when_12 vm_X8_reckonPlan lk_8_190 so_8 rfl (ct_X8_reckonPlan _ _  _ (by first | exact H0 | exact H1 | exact H2 | omega) (by first | exact H0 | exact H1 | exact H2 | omega) (by first | exact H0 | exact H1 | exact H2 | omega)) (Nat.le_of_ble_eq_true rfl) (Nat.le_of_ble_eq_true rfl) (fun Mb2 b2 => ?_)
    refine rr_aload0 (pc := 15) B dX8_when_15 ?_
    refine rr_getR (pc := 16) B dX8_when_16 fl_8_10 or_8_0 ?_
    refine rr_getR (pc := 19) B dX8_when_19 fl_8_198 or_4_0 ?_
    refine rr_iload1 (pc := 22) B dX8_when_22 ?_
    refine rr_ialoadE (pc := 23) B dX8_when_23 sa_26 (by omega) ((RC_PL b2.1 b2.2.2.2).2.2 _ (by omega) (by omega)) (fun b3 => ?_)
    refine rr_ireturn (pc := 24) B Br dX8_when_24 ⟨congrArg (fun z => some (aI z)) ?_, ?_⟩
    · unfold vWhen; repeat (first | rw [if_pos (by omega)] | rw [if_neg (by omega)])
    · exact ⟨b2.1, b2.2.1, by unfold vWhen; rw [if_pos (by omega)]; omega, by unfold vWhen; rw [if_pos (by omega)]; omega⟩
  · replace b1 := of_decide_eq_false b1
    refine rr_bipush (z := (-2)) (pc := 8) B dX8_when_8 (by decide) ?_
    refine rr_ireturn (pc := 10) B Br dX8_when_10 ⟨congrArg (fun z => some (aI z)) ?_, ?_⟩
    · unfold vWhen; repeat (first | rw [if_pos (by omega)] | rw [if_neg (by omega)])
    · exact ⟨H0, mo_r M, by unfold vWhen; rw [if_neg (by omega)]; decide, by unfold vWhen; rw [if_neg (by omega)]; decide⟩
set_option maxHeartbeats 4000000 in
set_option maxRecDepth 100000 in
theorem ct_X8_mostR (g : ax_G) (M : ax_M) (w : Int) (S : ax_M) (H0 : RC S M) (H1 : SI S) (H2 : SR S) (H3 : 0 ≤ w ∧ w ≤ 1) : CT g md_X8_most 5 [aR 8, aI w] M (pIR (vMost S w) (fun M2 => RC S M2 ∧ mo M M2 ∧ 0 ≤ vMost S w ∧ vMost S w ≤ 1000)) := by
  refine ct_intro 0 rfl rfl ?_
  intro X hg B Br
  subst hg
  show AW X 0 [some (aR 8), some (aI w)] [] M
  refine rr_rg (fun G0 => ?_)
  refine rr_iload1 (pc := 0) B dX8_most_0 ?_
  refine rr_iconst (z := 1) (pc := 1) B dX8_most_1 ?_
  refine rc_SI2 (pc := 2) B dX8_most_2 st_X8_within lk_8_74 (ct_X8_within _ _ _ _  (by first | exact H0 | exact H1 | exact H2 | omega)) (Nat.le_of_ble_eq_true rfl) (Nat.le_of_ble_eq_true rfl) ?_
  refine rr_if_neB 11 (pc := 5) B dX8_most_5 (by decide) (fun b1 => ?_) (fun b1 => ?_)
  · replace b1 := of_decide_eq_true b1
    refine rr_aload0 (pc := 11) B dX8_most_11 ?_
    refine rc_VVR0 (pc := 12) B dX8_most_12 vm_X8_reckonPlan lk_8_190 so_8 rfl (ct_X8_reckonPlan _ _  _ (by first | exact H0 | exact H1 | exact H2 | omega) (by first | exact H0 | exact H1 | exact H2 | omega) (by first | exact H0 | exact H1 | exact H2 | omega)) (Nat.le_of_ble_eq_true rfl) (Nat.le_of_ble_eq_true rfl) (fun Mb2 b2 => ?_)
    refine rr_iload1 (pc := 15) B dX8_most_15 ?_
    refine rr_if_ne 29 (pc := 16) B dX8_most_16 (by decide) (by omega) (fun b3 => ?_) (fun b3 => ?_)
    · refine rr_aload0 (pc := 29) B dX8_most_29 ?_
      refine rr_getR (pc := 30) B dX8_most_30 fl_8_10 or_8_0 ?_
      refine rr_getIE (pc := 33) B dX8_most_33 fl_8_195 ob_4_2 ((RC_PL b2.1 b2.2.2.2).2.1) (fun b4 => ?_)
      refine rr_ireturn (pc := 36) B Br dX8_most_36 ⟨congrArg (fun z => some (aI z)) ?_, ?_⟩
      · first | (exfalso; omega) | (unfold vMost; repeat (first | rw [if_pos (by omega)] | rw [if_neg (by omega)]))
      · first | (exfalso; omega) | exact ⟨b2.1, b2.2.1, by unfold vMost; rw [if_pos (by omega)]; first | (rw [if_pos (by omega)]; omega) | (rw [if_neg (by omega)]; omega), by unfold vMost; rw [if_pos (by omega)]; first | (rw [if_pos (by omega)]; omega) | (rw [if_neg (by omega)]; omega)⟩
    · refine rr_aload0 (pc := 19) B dX8_most_19 ?_
      refine rr_getR (pc := 20) B dX8_most_20 fl_8_10 or_8_0 ?_
      refine rr_getIE (pc := 23) B dX8_most_23 fl_8_193 ob_4_1 ((RC_PL b2.1 b2.2.2.2).1) (fun b4 => ?_)
      refine rr_goto 36 (pc := 26) B dX8_most_26 (by decide) ?_
      refine rr_ireturn (pc := 36) B Br dX8_most_36 ⟨congrArg (fun z => some (aI z)) ?_, ?_⟩
      · first | (exfalso; omega) | (unfold vMost; repeat (first | rw [if_pos (by omega)] | rw [if_neg (by omega)]))
      · first | (exfalso; omega) | exact ⟨b2.1, b2.2.1, by unfold vMost; rw [if_pos (by omega)]; first | (rw [if_pos (by omega)]; omega) | (rw [if_neg (by omega)]; omega), by unfold vMost; rw [if_pos (by omega)]; first | (rw [if_pos (by omega)]; omega) | (rw [if_neg (by omega)]; omega)⟩
  · replace b1 := of_decide_eq_false b1
    refine rr_bipush (z := (-2)) (pc := 8) B dX8_most_8 (by decide) ?_
    refine rr_ireturn (pc := 10) B Br dX8_most_10 ⟨congrArg (fun z => some (aI z)) ?_, ?_⟩
    · first | (exfalso; omega) | (unfold vMost; repeat (first | rw [if_pos (by omega)] | rw [if_neg (by omega)]))
    · first | (exfalso; omega) | exact ⟨b2.1, b2.2.1, by unfold vMost; rw [if_pos (by omega)]; first | (rw [if_pos (by omega)]; omega) | (rw [if_neg (by omega)]; omega), by unfold vMost; rw [if_pos (by omega)]; first | (rw [if_pos (by omega)]; omega) | (rw [if_neg (by omega)]; omega)⟩
set_option maxHeartbeats 4000000 in
set_option maxRecDepth 100000 in
theorem ct_X8_mixDeed (g : ax_G) (M : ax_M) (z d : Int) (S : ax_M) (H0 : RC S M) (H1 : SI S) (H2 : SR S) (H3 : 0 ≤ d ∧ d ≤ vw S 9 2 - 1) : CT g md_X8_mixDeed 5 [aR 8, aL z, aI d] M (pLR (dgB (vw S) d z) (fun M2 => RC S M2 ∧ mo M M2)) := by
  refine ct_intro 3 rfl rfl ?_
  intro X hg B Br
  subst hg
  show AW X 0 [some (aR 8), some (aL z), none, some (aI d), none, none, none] [] M
  refine rr_rg (fun G0 => ?_)
  have P57 : ∀ p, 0 ≤ p → p < 8 → 0 ≤ vw S 57 p ∧ vw S 57 p ≤ 99 := fun p _ _ => H2 57 p rfl
  have R60 : 0 ≤ vw S 60 0 ∧ vw S 60 0 ≤ 999 := H2 60 0 rfl
  have N8 := vw_n8 H2
  have L : ∀ nn : Nat, (∀ (M1 : ax_M) (y w : Int), (RC S M1 ∧ mo M M1) → (0 ≤ w ∧ w ≤ 5) → (y = itI (fun w h => mx h (dOf (vw S) d w)) z w) → ((10 - w).toNat) < nn → AW X 6 [some (aR 8), some (aL z), none, some (aI d), some (aL y), none, some (aI w)] [] M1) ∧ True := by
    intro nn
    induction nn with
    | zero => exact ⟨by intros; omega, trivial⟩
    | succ nn ih =>
      refine ⟨?_, trivial⟩
      · intro M1 y w K0 K1 K2 hm
        refine rr_rg (fun G1 => ?_)
        refine rr_iload6 (pc := 6) B dX8_mixDeed_6 ?_
        refine rr_iconst (z := 4) (pc := 8) B dX8_mixDeed_8 ?_
        refine rr_icmp_gt 33 (pc := 9) B dX8_mixDeed_9 (by decide) (by omega) (fun b1 => ?_) (fun b1 => ?_)
        · refine rr_lload4 (pc := 33) B dX8_mixDeed_33 ?_
          refine rr_aload0 (pc := 35) B dX8_mixDeed_35 ?_
          refine rr_iload3 (pc := 36) B dX8_mixDeed_36 ?_
          refine rc_VIR1 (pc := 37) B dX8_mixDeed_37 vm_X8_hours lk_8_360 so_8 rfl (ct_X8_hours _ _ _ _ (by exact K0.1) (by exact H1) (by exact H2) (by omega)) (Nat.le_of_ble_eq_true rfl) (Nat.le_of_ble_eq_true rfl) (fun Mb2 b2 => ?_)
          have c37 : RC S Mb2 ∧ mo M Mb2 := ⟨b2.1, mo_t K0.2 b2.2⟩
          rw [show vHours S d = hrs (vw S) d from if_pos H3]
          refine rr_i2l (pc := 40) B dX8_mixDeed_40 (by have := hrs_r (vw S) d; omega) ?_
          refine rc_SL2 (pc := 41) B dX8_mixDeed_41 st_X8_mix lk_8_321 (ct_X8_mix _ _ _ _  ) (Nat.le_of_ble_eq_true rfl) (Nat.le_of_ble_eq_true rfl) ?_
          refine rr_lstore4 (pc := 44) B dX8_mixDeed_44 rfl ?_
          refine rr_lload4 (pc := 46) B dX8_mixDeed_46 ?_
          refine rr_aload0 (pc := 48) B dX8_mixDeed_48 ?_
          refine rr_iload3 (pc := 49) B dX8_mixDeed_49 ?_
          refine rr_iconst (z := 2) (pc := 50) B dX8_mixDeed_50 ?_
          refine rc_VIR2 (pc := 51) B dX8_mixDeed_51 vm_X8_costs lk_8_363 so_8 rfl (ct_X8_costs _ _ _ _ _ (by exact c37.1) (by exact H1) (by exact H2) (by omega)) (Nat.le_of_ble_eq_true rfl) (Nat.le_of_ble_eq_true rfl) (fun Mb3 b3 => ?_)
          have c51 : RC S Mb3 ∧ mo M Mb3 := ⟨b3.1, mo_t c37.2 b3.2⟩
          rw [show vCosts S d 2 = cst (vw S) d 2 from if_pos ⟨H3, by decide⟩]
          refine rr_i2l (pc := 54) B dX8_mixDeed_54 (by have := cst_r (V := vw S) (d := d) (h := 2) P57 R60; omega) ?_
          refine rc_SL2 (pc := 55) B dX8_mixDeed_55 st_X8_mix lk_8_321 (ct_X8_mix _ _ _ _  ) (Nat.le_of_ble_eq_true rfl) (Nat.le_of_ble_eq_true rfl) ?_
          refine rr_lstore4 (pc := 58) B dX8_mixDeed_58 rfl ?_
          refine rr_lload4 (pc := 60) B dX8_mixDeed_60 ?_
          refine rr_aload0 (pc := 62) B dX8_mixDeed_62 ?_
          refine rr_iload3 (pc := 63) B dX8_mixDeed_63 ?_
          refine rr_iconst (z := 2) (pc := 64) B dX8_mixDeed_64 ?_
          refine rc_VIR2 (pc := 65) B dX8_mixDeed_65 vm_X8_likeness lk_8_366 so_8 rfl (ct_X8_likeness _ _ _ _ _ (by exact c51.1) (by exact H1) (by exact H2) (by omega)) (Nat.le_of_ble_eq_true rfl) (Nat.le_of_ble_eq_true rfl) (fun Mb4 b4 => ?_)
          have c65 : RC S Mb4 ∧ mo M Mb4 := ⟨b4.1, mo_t c51.2 b4.2⟩
          rw [show vLik S d 2 = lik (vw S) d 2 from if_pos ⟨H3, by decide⟩]
          refine rr_i2l (pc := 68) B dX8_mixDeed_68 (by have := lik_r (vw S) d 2; omega) ?_
          refine rc_SL2 (pc := 69) B dX8_mixDeed_69 st_X8_mix lk_8_321 (ct_X8_mix _ _ _ _  ) (Nat.le_of_ble_eq_true rfl) (Nat.le_of_ble_eq_true rfl) ?_
          refine rr_lstore4 (pc := 72) B dX8_mixDeed_72 rfl ?_
          refine rr_lload4 (pc := 74) B dX8_mixDeed_74 ?_
          refine rr_aload0 (pc := 76) B dX8_mixDeed_76 ?_
          refine rr_iload3 (pc := 77) B dX8_mixDeed_77 ?_
          refine rr_iconst (z := 2) (pc := 78) B dX8_mixDeed_78 ?_
          refine rr_iconst (z := 0) (pc := 79) B dX8_mixDeed_79 ?_
          refine rc_VLR3 (pc := 80) B dX8_mixDeed_80 vm_X8_odds lk_8_369 so_8 rfl (ct_X8_odds _ _ _ _ _ _ (by exact c65.1) (by exact H1) (by exact H2) (by omega)) (Nat.le_of_ble_eq_true rfl) (Nat.le_of_ble_eq_true rfl) (fun Mb5 b5 => ?_)
          have c80 : RC S Mb5 ∧ mo M Mb5 := ⟨b5.1, mo_t c65.2 b5.2⟩
          rw [show vOdds S d 2 0 = odV (vw S) d 2 0 from if_pos ⟨H3, by decide, by decide⟩]
          refine rc_SL2 (pc := 83) B dX8_mixDeed_83 st_X8_mix lk_8_321 (ct_X8_mix _ _ _ _  ) (Nat.le_of_ble_eq_true rfl) (Nat.le_of_ble_eq_true rfl) ?_
          refine rr_aload0 (pc := 86) B dX8_mixDeed_86 ?_
          refine rr_iload3 (pc := 87) B dX8_mixDeed_87 ?_
          refine rr_iconst (z := 2) (pc := 88) B dX8_mixDeed_88 ?_
          refine rr_iconst (z := 1) (pc := 89) B dX8_mixDeed_89 ?_
          refine rc_VLR3 (pc := 90) B dX8_mixDeed_90 vm_X8_odds lk_8_369 so_8 rfl (ct_X8_odds _ _ _ _ _ _ (by exact c80.1) (by exact H1) (by exact H2) (by omega)) (Nat.le_of_ble_eq_true rfl) (Nat.le_of_ble_eq_true rfl) (fun Mb6 b6 => ?_)
          have c90 : RC S Mb6 ∧ mo M Mb6 := ⟨b6.1, mo_t c80.2 b6.2⟩
          rw [show vOdds S d 2 1 = odV (vw S) d 2 1 from if_pos ⟨H3, by decide, by decide⟩]
          refine rc_SL2 (pc := 93) B dX8_mixDeed_93 st_X8_mix lk_8_321 (ct_X8_mix _ _ _ _  ) (Nat.le_of_ble_eq_true rfl) (Nat.le_of_ble_eq_true rfl) ?_
          refine rr_lreturn (pc := 96) B Br dX8_mixDeed_96 ⟨congrArg (fun z => some (aL z)) ?_, ?_⟩
          · rw [K2, show w = 5 by omega]; rfl
          · exact c90
        · refine rr_lload4 (pc := 12) B dX8_mixDeed_12 ?_
          refine rr_aload0 (pc := 14) B dX8_mixDeed_14 ?_
          refine rr_iload3 (pc := 15) B dX8_mixDeed_15 ?_
          refine rr_iload6 (pc := 16) B dX8_mixDeed_16 ?_
          refine rc_VIR2 (pc := 18) B dX8_mixDeed_18 vm_X8_deed lk_8_357 so_8 rfl (ct_X8_deed _ _ _ _ _ (by exact K0.1) (by exact H1) (by exact H2) (by omega)) (Nat.le_of_ble_eq_true rfl) (Nat.le_of_ble_eq_true rfl) (fun Mb2 b2 => ?_)
          have c18 : RC S Mb2 ∧ mo M Mb2 := ⟨b2.1, mo_t K0.2 b2.2⟩
          rw [show vDeed S d w = dOf (vw S) d w from if_pos ⟨H3, by omega⟩]
          refine rr_i2l (pc := 21) B dX8_mixDeed_21 (by have := dOf_r H2 d w; omega) ?_
          refine rc_SL2 (pc := 22) B dX8_mixDeed_22 st_X8_mix lk_8_321 (ct_X8_mix _ _ _ _  ) (Nat.le_of_ble_eq_true rfl) (Nat.le_of_ble_eq_true rfl) ?_
          refine rr_lstore4 (pc := 25) B dX8_mixDeed_25 rfl ?_
          refine rr_iinc6 (z := 1) (pc := 27) B dX8_mixDeed_27 rfl ?_
          refine rr_goto 6 (pc := 30) B dX8_mixDeed_30 (by decide) ?_
          refine ih.1 _ _ _ ?_ ?_ ?_ ?_
          · exact c18
          · omega
          · rw [itI_s _ _ (by omega), ← K2]; rfl
          · omega
  refine rr_lload1 (pc := 0) B dX8_mixDeed_0 ?_
  refine rr_lstore4 (pc := 1) B dX8_mixDeed_1 rfl ?_
  refine rr_iconst (z := 0) (pc := 3) B dX8_mixDeed_3 ?_
  refine rr_istore6 (pc := 4) B dX8_mixDeed_4 rfl ?_
  refine (L _).1 _ _ _ ?_ ?_ ?_ (Nat.lt_succ_self _)
  · exact ⟨H0, mo_r M⟩
  · omega
  · rfl
set_option maxHeartbeats 16000000 in
set_option maxRecDepth 100000 in
theorem ct_X8_digest (g : ax_G) (M : ax_M) (S : ax_M) (H0 : RC S M) (H1 : SI S) (H2 : SR S) : CT g md_X8_digest 6 [aR 8] M (pLR (vDig S) (fun M2 => RC S M2 ∧ mo M M2)) := by
  refine ct_intro 4 rfl rfl ?_
  intro X hg B Br
  subst hg
  show AW X 0 [some (aR 8), none, none, none, none] [] M
  refine rr_rg (fun G0 => ?_)
  have P57 : ∀ p, 0 ≤ p → p < 8 → 0 ≤ vw S 57 p ∧ vw S 57 p ≤ 99 := fun p _ _ => H2 57 p rfl
  have R60 : 0 ≤ vw S 60 0 ∧ vw S 60 0 ≤ 999 := H2 60 0 rfl
  have N8 := vw_n8 H2
  have F0 : -1 ≤ qd S 0 7 ∧ qd S 0 7 ≤ S 45 0 := dq_fr (t0 S) H2.n0.1
  have NN0 := H2.n0
  have F1 : -1 ≤ qr S 5 2 ∧ qr S 5 2 ≤ 80 := rq_flr (t1 S) H2.n1
  have L : ∀ nn : Nat, (∀ (M1 : ax_M) (z i : Int), (RC S M1 ∧ mo M M1) → (0 ≤ i ∧ i ≤ 8) → (z = itI (fun w h => mx h (vCount S w)) 17 i) → ((100000 - i).toNat) < nn → AW X 6 [some (aR 8), some (aL z), none, some (aI i), none] [] M1) ∧ (∀ (M1 : ax_M) (z d : Int), (RC S M1 ∧ mo M M1) → (0 ≤ d ∧ d ≤ vw S 9 2) → (z = dg2 S d) → ((50000 - 100 * d).toNat) < nn → AW X 51 [some (aR 8), some (aL z), none, some (aI d), none] [] M1) ∧ (∀ (M1 : ax_M) (z k : Int) (w4 : Option ax_V), (RC S M1 ∧ mo M M1) → (0 ≤ k ∧ k ≤ 4) → (z = dg3 S k) → ((40000 - 100 * k).toNat) < nn → AW X 101 [some (aR 8), some (aL z), none, some (aI k), w4] [] M1) ∧ (∀ (M1 : ax_M) (z k w : Int), (RC S M1 ∧ mo M M1) → (0 ≤ k ∧ k < 4) → (0 ≤ w ∧ w ≤ 3) → (z = dgK (vw S) k (dg3 S k) w) → ((40000 - 100 * k - 1 - w).toNat) < nn → AW X 109 [some (aR 8), some (aL z), none, some (aI k), some (aI w)] [] M1) ∧ True := by
    intro nn
    induction nn with
    | zero => exact ⟨by intros; omega, by intros; omega, by intros; omega, by intros; omega, trivial⟩
    | succ nn ih =>
      refine ⟨?_, ?_, ?_, ?_, trivial⟩
      · intro M1 z i K0 K1 K2 hm
        refine rr_rg (fun G1 => ?_)
        refine rr_iload3 (pc := 6) B dX8_digest_6 ?_
        refine rr_bipush (z := 7) (pc := 7) B dX8_digest_7 (by decide) ?_
        refine rr_icmp_gt 29 (pc := 9) B dX8_digest_9 (by decide) (by omega) (fun b1 => ?_) (fun b1 => ?_)
        · refine rr_lload1 (pc := 29) B dX8_digest_29 ?_
          refine rr_aload0 (pc := 30) B dX8_digest_30 ?_
          refine rr_iconst (z := 0) (pc := 31) B dX8_digest_31 ?_
          refine rc_VIR1 (pc := 32) B dX8_digest_32 vm_X8_fault lk_8_325 so_8 rfl (ct_X8_fault _ _ _ _ (by exact K0.1) (by exact H1) (by exact H2) (by omega)) (Nat.le_of_ble_eq_true rfl) (Nat.le_of_ble_eq_true rfl) (fun Mb2 b2 => ?_)
          have c32 : RC S Mb2 ∧ mo M Mb2 := ⟨b2.1, mo_t K0.2 b2.2⟩
          rw [show vFault S 0 = qd S 0 7 from rfl]
          refine rr_i2l (pc := 35) B dX8_digest_35 (by omega) ?_
          refine rc_SL2 (pc := 36) B dX8_digest_36 st_X8_mix lk_8_321 (ct_X8_mix _ _ _ _  ) (Nat.le_of_ble_eq_true rfl) (Nat.le_of_ble_eq_true rfl) ?_
          refine rr_aload0 (pc := 39) B dX8_digest_39 ?_
          refine rr_iconst (z := 1) (pc := 40) B dX8_digest_40 ?_
          refine rc_VIR1 (pc := 41) B dX8_digest_41 vm_X8_fault lk_8_325 so_8 rfl (ct_X8_fault _ _ _ _ (by exact c32.1) (by exact H1) (by exact H2) (by omega)) (Nat.le_of_ble_eq_true rfl) (Nat.le_of_ble_eq_true rfl) (fun Mb3 b3 => ?_)
          have c41 : RC S Mb3 ∧ mo M Mb3 := ⟨b3.1, mo_t c32.2 b3.2⟩
          rw [show vFault S 1 = qr S 5 2 from rfl]
          refine rr_i2l (pc := 44) B dX8_digest_44 (by omega) ?_
          refine rc_SL2 (pc := 45) B dX8_digest_45 st_X8_mix lk_8_321 (ct_X8_mix _ _ _ _  ) (Nat.le_of_ble_eq_true rfl) (Nat.le_of_ble_eq_true rfl) ?_
          refine rr_lstore1 (pc := 48) B dX8_digest_48 rfl ?_
          refine rr_iconst (z := 0) (pc := 49) B dX8_digest_49 ?_
          refine rr_istore3 (pc := 50) B dX8_digest_50 rfl ?_
          refine ih.2.1 _ _ _ ?_ ?_ ?_ ?_
          · exact c41
          · omega
          · rw [show i = 8 by omega] at K2; rw [K2]; rfl
          · omega
        · refine rr_lload1 (pc := 12) B dX8_digest_12 ?_
          refine rr_aload0 (pc := 13) B dX8_digest_13 ?_
          refine rr_iload3 (pc := 14) B dX8_digest_14 ?_
          refine rc_VIR1 (pc := 15) B dX8_digest_15 vm_X8_count lk_8_318 so_8 rfl (ct_X8_count _ _ _ _ (by exact K0.1) (by exact H1) (by exact H2) (by omega)) (Nat.le_of_ble_eq_true rfl) (Nat.le_of_ble_eq_true rfl) (fun Mb2 b2 => ?_)
          have c15 : RC S Mb2 ∧ mo M Mb2 := ⟨b2.1, mo_t K0.2 b2.2⟩
          refine rr_i2l (pc := 18) B dX8_digest_18 (by have := cnt_r H2 i; omega) ?_
          refine rc_SL2 (pc := 19) B dX8_digest_19 st_X8_mix lk_8_321 (ct_X8_mix _ _ _ _  ) (Nat.le_of_ble_eq_true rfl) (Nat.le_of_ble_eq_true rfl) ?_
          refine rr_lstore1 (pc := 22) B dX8_digest_22 rfl ?_
          refine rr_iinc3 (z := 1) (pc := 23) B dX8_digest_23 rfl ?_
          refine rr_goto 6 (pc := 26) B dX8_digest_26 (by decide) ?_
          refine ih.1 _ _ _ ?_ ?_ ?_ ?_
          · exact c15
          · omega
          · rw [itI_s _ _ (by omega), ← K2]; rfl
          · omega
      · intro M1 z d K0 K1 K2 hm
        refine rr_rg (fun G1 => ?_)
        refine rr_iload3 (pc := 51) B dX8_digest_51 ?_
        refine rr_aload0 (pc := 52) B dX8_digest_52 ?_
        refine rr_getR (pc := 53) B dX8_digest_53 fl_8_27 or_8_2 ?_
        refine rr_getIE (pc := 56) B dX8_digest_56 fl_8_201 ob_0_6 ((show M1 0 6 = vw S 9 2 from K0.1.1.1.1.2.1)) (fun b1 => ?_)
        refine rr_icmp_ge 99 (pc := 59) B dX8_digest_59 (by decide) (by omega) (fun b2 => ?_) (fun b2 => ?_)
        · refine rr_iconst (z := 0) (pc := 99) B dX8_digest_99 ?_
          refine rr_istore3 (pc := 100) B dX8_digest_100 rfl ?_
          refine ih.2.2.1 _ _ _ _ ?_ ?_ ?_ ?_
          · exact K0
          · omega
          · rw [K2, show d = vw S 9 2 by omega]; rfl
          · omega
        · refine rr_aload0 (pc := 62) B dX8_digest_62 ?_
          refine rr_lload1 (pc := 63) B dX8_digest_63 ?_
          refine rr_iload3 (pc := 64) B dX8_digest_64 ?_
          refine rc_VLR2 (pc := 65) B dX8_digest_65 vm_X8_mixDeed lk_8_328 so_8 rfl (ct_X8_mixDeed _ _ _ _ _ (by exact K0.1) (by exact H1) (by exact H2) (by omega)) (Nat.le_of_ble_eq_true rfl) (Nat.le_of_ble_eq_true rfl) (fun Mb3 b3 => ?_)
          have c65 : RC S Mb3 ∧ mo M Mb3 := ⟨b3.1, mo_t K0.2 b3.2⟩
          refine rr_lstore1 (pc := 68) B dX8_digest_68 rfl ?_
          refine rr_lload1 (pc := 69) B dX8_digest_69 ?_
          refine rr_aload0 (pc := 70) B dX8_digest_70 ?_
          refine rr_iload3 (pc := 71) B dX8_digest_71 ?_
          refine rc_VIR1 (pc := 72) B dX8_digest_72 vm_X8_when lk_8_332 so_8 rfl (ct_X8_whenR _ _ _ _ (by exact c65.1) (by exact H1) (by exact H2) (by omega)) (Nat.le_of_ble_eq_true rfl) (Nat.le_of_ble_eq_true rfl) (fun Mb4 b4 => ?_)
          have c72 : RC S Mb4 ∧ mo M Mb4 := ⟨b4.1, mo_t c65.2 b4.2.1⟩
          have r72 := b4.2.2
          rw [show vWhen S d = mstR (vw S) d from if_pos (by omega)] at r72 ⊢
          refine rr_i2l (pc := 75) B dX8_digest_75 (by omega) ?_
          refine rc_SL2 (pc := 76) B dX8_digest_76 st_X8_mix lk_8_321 (ct_X8_mix _ _ _ _  ) (Nat.le_of_ble_eq_true rfl) (Nat.le_of_ble_eq_true rfl) ?_
          refine rr_lstore1 (pc := 79) B dX8_digest_79 rfl ?_
          refine rr_lload1 (pc := 80) B dX8_digest_80 ?_
          refine rr_aload0 (pc := 81) B dX8_digest_81 ?_
          refine rr_iconst (z := 1) (pc := 82) B dX8_digest_82 ?_
          refine rr_iload3 (pc := 83) B dX8_digest_83 ?_
          refine rr_shl1 (pc := 84) B dX8_digest_84 (by omega) (fun b5 => ?_)
          refine rc_VIR1 (pc := 85) B dX8_digest_85 vm_X8_spared lk_8_335 so_8 rfl (ct_X8_spared _ _ _ _ (by exact c72.1) (by exact H1) (by exact H2) (by have q2 := p2_le (a := d) (b := 7) (by omega); have q3 : p2 7 = 128 := rfl; have q := p2_pos d; omega)) (Nat.le_of_ble_eq_true rfl) (Nat.le_of_ble_eq_true rfl) (fun Mb6 b6 => ?_)
          have c85 : RC S Mb6 ∧ mo M Mb6 := ⟨b6.1, mo_t c72.2 b6.2⟩
          rw [show vSpar S (p2 d) = spV (vw S) (p2 d) from if_pos (by have q := p2_pos d; have q2 := p2_le (a := d + 1) (b := vw S 9 2) (by omega); have q3 := p2_s (k := d) (by omega); omega)]
          refine rr_i2l (pc := 88) B dX8_digest_88 (by have := wth_r (vw S) (nD (rch (vw S) (p2 d)) (p2 d)) N8 (fun j _ _ => vw_50 H2 j); unfold spV; omega) ?_
          refine rc_SL2 (pc := 89) B dX8_digest_89 st_X8_mix lk_8_321 (ct_X8_mix _ _ _ _  ) (Nat.le_of_ble_eq_true rfl) (Nat.le_of_ble_eq_true rfl) ?_
          refine rr_lstore1 (pc := 92) B dX8_digest_92 rfl ?_
          refine rr_iinc3 (z := 1) (pc := 93) B dX8_digest_93 rfl ?_
          refine rr_goto 51 (pc := 96) B dX8_digest_96 (by decide) ?_
          refine ih.2.1 _ _ _ ?_ ?_ ?_ ?_
          · exact c85
          · omega
          · rw [show dg2 S (d + 1) = dgD (vw S) d (dg2 S d) from itI_s _ _ K1.1, K2]; rfl
          · omega
      · intro M1 z k w4 K0 K1 K2 hm
        refine rr_rg (fun G1 => ?_)
        refine rr_iload3 (pc := 101) B dX8_digest_101 ?_
        refine rr_iconst (z := 4) (pc := 102) B dX8_digest_102 ?_
        refine rr_icmp_ge 140 (pc := 103) B dX8_digest_103 (by decide) (by omega) (fun b1 => ?_) (fun b1 => ?_)
        · refine rr_lload1 (pc := 140) B dX8_digest_140 ?_
          refine rr_aload0 (pc := 141) B dX8_digest_141 ?_
          refine rr_iconst (z := 0) (pc := 142) B dX8_digest_142 ?_
          refine rc_VIR1 (pc := 143) B dX8_digest_143 vm_X8_most lk_8_341 so_8 rfl (ct_X8_mostR _ _ _ _ (by exact K0.1) (by exact H1) (by exact H2) (by decide)) (Nat.le_of_ble_eq_true rfl) (Nat.le_of_ble_eq_true rfl) (fun Mb2 b2 => ?_)
          have c143 : RC S Mb2 ∧ mo M Mb2 := ⟨b2.1, mo_t K0.2 b2.2.1⟩
          have r143 := b2.2.2
          rw [show vMost S 0 = mW (vw S) from rfl] at r143 ⊢
          refine rr_i2l (pc := 146) B dX8_digest_146 (by omega) ?_
          refine rc_SL2 (pc := 147) B dX8_digest_147 st_X8_mix lk_8_321 (ct_X8_mix _ _ _ _  ) (Nat.le_of_ble_eq_true rfl) (Nat.le_of_ble_eq_true rfl) ?_
          refine rr_aload0 (pc := 150) B dX8_digest_150 ?_
          refine rr_iconst (z := 1) (pc := 151) B dX8_digest_151 ?_
          refine rc_VIR1 (pc := 152) B dX8_digest_152 vm_X8_most lk_8_341 so_8 rfl (ct_X8_mostR _ _ _ _ (by exact c143.1) (by exact H1) (by exact H2) (by decide)) (Nat.le_of_ble_eq_true rfl) (Nat.le_of_ble_eq_true rfl) (fun Mb3 b3 => ?_)
          have c152 : RC S Mb3 ∧ mo M Mb3 := ⟨b3.1, mo_t c143.2 b3.2.1⟩
          have r152 := b3.2.2
          rw [show vMost S 1 = mC (vw S) from rfl] at r152 ⊢
          refine rr_i2l (pc := 155) B dX8_digest_155 (by omega) ?_
          refine rc_SL2 (pc := 156) B dX8_digest_156 st_X8_mix lk_8_321 (ct_X8_mix _ _ _ _  ) (Nat.le_of_ble_eq_true rfl) (Nat.le_of_ble_eq_true rfl) ?_
          refine rr_lstore1 (pc := 159) B dX8_digest_159 rfl ?_
          refine rr_lload1 (pc := 160) B dX8_digest_160 ?_
          refine rr_aload0 (pc := 161) B dX8_digest_161 ?_
          refine rr_iconst (z := 0) (pc := 162) B dX8_digest_162 ?_
          refine rc_VIR1 (pc := 163) B dX8_digest_163 vm_X8_crowd lk_8_344 so_8 rfl (ct_X8_crowd _ _ _ _ (by exact c152.1) (by exact H1) (by exact H2) (by omega)) (Nat.le_of_ble_eq_true rfl) (Nat.le_of_ble_eq_true rfl) (fun Mb4 b4 => ?_)
          have c163 : RC S Mb4 ∧ mo M Mb4 := ⟨b4.1, mo_t c152.2 b4.2⟩
          rw [show vCrowd S 0 = crO (vw S) 0 from rfl]
          refine rr_i2l (pc := 166) B dX8_digest_166 (by have := crO_r (vw S) 0 N8; omega) ?_
          refine rc_SL2 (pc := 167) B dX8_digest_167 st_X8_mix lk_8_321 (ct_X8_mix _ _ _ _  ) (Nat.le_of_ble_eq_true rfl) (Nat.le_of_ble_eq_true rfl) ?_
          refine rr_aload0 (pc := 170) B dX8_digest_170 ?_
          refine rr_iconst (z := 1) (pc := 171) B dX8_digest_171 ?_
          refine rc_VIR1 (pc := 172) B dX8_digest_172 vm_X8_crowd lk_8_344 so_8 rfl (ct_X8_crowd _ _ _ _ (by exact c163.1) (by exact H1) (by exact H2) (by omega)) (Nat.le_of_ble_eq_true rfl) (Nat.le_of_ble_eq_true rfl) (fun Mb5 b5 => ?_)
          have c172 : RC S Mb5 ∧ mo M Mb5 := ⟨b5.1, mo_t c163.2 b5.2⟩
          rw [show vCrowd S 1 = crO (vw S) 1 from rfl]
          refine rr_i2l (pc := 175) B dX8_digest_175 (by have := crO_r (vw S) 1 N8; omega) ?_
          refine rc_SL2 (pc := 176) B dX8_digest_176 st_X8_mix lk_8_321 (ct_X8_mix _ _ _ _  ) (Nat.le_of_ble_eq_true rfl) (Nat.le_of_ble_eq_true rfl) ?_
          refine rr_aload0 (pc := 179) B dX8_digest_179 ?_
          refine rr_iconst (z := 2) (pc := 180) B dX8_digest_180 ?_
          refine rc_VIR1 (pc := 181) B dX8_digest_181 vm_X8_crowd lk_8_344 so_8 rfl (ct_X8_crowd _ _ _ _ (by exact c172.1) (by exact H1) (by exact H2) (by omega)) (Nat.le_of_ble_eq_true rfl) (Nat.le_of_ble_eq_true rfl) (fun Mb6 b6 => ?_)
          have c181 : RC S Mb6 ∧ mo M Mb6 := ⟨b6.1, mo_t c172.2 b6.2⟩
          rw [show vCrowd S 2 = crO (vw S) 2 from rfl]
          refine rr_i2l (pc := 184) B dX8_digest_184 (by have := crO_r (vw S) 2 N8; omega) ?_
          refine rc_SL2 (pc := 185) B dX8_digest_185 st_X8_mix lk_8_321 (ct_X8_mix _ _ _ _  ) (Nat.le_of_ble_eq_true rfl) (Nat.le_of_ble_eq_true rfl) ?_
          refine rr_lstore1 (pc := 188) B dX8_digest_188 rfl ?_
          refine rr_lload1 (pc := 189) B dX8_digest_189 ?_
          refine rr_aload0 (pc := 190) B dX8_digest_190 ?_
          refine rr_iconst (z := 0) (pc := 191) B dX8_digest_191 ?_
          refine rc_VIR1 (pc := 192) B dX8_digest_192 vm_X8_hats lk_8_347 so_8 rfl (ct_X8_hats _ _ _ _ (by exact c181.1) (by exact H1) (by exact H2) (by omega)) (Nat.le_of_ble_eq_true rfl) (Nat.le_of_ble_eq_true rfl) (fun Mb7 b7 => ?_)
          have c192 : RC S Mb7 ∧ mo M Mb7 := ⟨b7.1, mo_t c181.2 b7.2⟩
          rw [show vHats S 0 = on (htB S) from rfl]
          refine rr_i2l (pc := 195) B dX8_digest_195 (by have := on_r (htB S); omega) ?_
          refine rc_SL2 (pc := 196) B dX8_digest_196 st_X8_mix lk_8_321 (ct_X8_mix _ _ _ _  ) (Nat.le_of_ble_eq_true rfl) (Nat.le_of_ble_eq_true rfl) ?_
          refine rr_aload0 (pc := 199) B dX8_digest_199 ?_
          refine rr_iconst (z := 1) (pc := 200) B dX8_digest_200 ?_
          refine rc_VIR1 (pc := 201) B dX8_digest_201 vm_X8_hats lk_8_347 so_8 rfl (ct_X8_hats _ _ _ _ (by exact c192.1) (by exact H1) (by exact H2) (by omega)) (Nat.le_of_ble_eq_true rfl) (Nat.le_of_ble_eq_true rfl) (fun Mb8 b8 => ?_)
          have c201 : RC S Mb8 ∧ mo M Mb8 := ⟨b8.1, mo_t c192.2 b8.2⟩
          rw [show vHats S 1 = htB S from rfl]
          refine rr_i2l (pc := 204) B dX8_digest_204 (by have := htN_r S (H2 9 26 rfl); omega) ?_
          refine rc_SL2 (pc := 205) B dX8_digest_205 st_X8_mix lk_8_321 (ct_X8_mix _ _ _ _  ) (Nat.le_of_ble_eq_true rfl) (Nat.le_of_ble_eq_true rfl) ?_
          refine rr_lstore1 (pc := 208) B dX8_digest_208 rfl ?_
          refine rr_lload1 (pc := 209) B dX8_digest_209 ?_
          refine rr_aload0 (pc := 210) B dX8_digest_210 ?_
          refine rc_VIR0 (pc := 211) B dX8_digest_211 vm_X8_best lk_8_350 so_8 rfl (ct_X8_best _ _  _ (by exact c201.1) (by exact H1) (by exact H2)) (Nat.le_of_ble_eq_true rfl) (Nat.le_of_ble_eq_true rfl) (fun Mb9 b9 => ?_)
          have c211 : RC S Mb9 ∧ mo M Mb9 := ⟨b9.1, mo_t c201.2 b9.2⟩
          refine rr_i2l (pc := 214) B dX8_digest_214 (by have := best_r S N8; omega) ?_
          refine rc_SL2 (pc := 215) B dX8_digest_215 st_X8_mix lk_8_321 (ct_X8_mix _ _ _ _  ) (Nat.le_of_ble_eq_true rfl) (Nat.le_of_ble_eq_true rfl) ?_
          refine rr_lstore1 (pc := 218) B dX8_digest_218 rfl ?_
          refine rr_lload1 (pc := 219) B dX8_digest_219 ?_
          refine rr_aload0 (pc := 220) B dX8_digest_220 ?_
          refine rr_iconst (z := 2) (pc := 221) B dX8_digest_221 ?_
          refine rr_iconst (z := 0) (pc := 222) B dX8_digest_222 ?_
          refine rc_VLR2 (pc := 223) B dX8_digest_223 vm_X8_regrets lk_8_353 so_8 rfl (ct_X8_regrets _ _ _ _ _ (by exact c211.1) (by exact H1) (by exact H2) (by omega)) (Nat.le_of_ble_eq_true rfl) (Nat.le_of_ble_eq_true rfl) (fun Mb10 b10 => ?_)
          have c223 : RC S Mb10 ∧ mo M Mb10 := ⟨b10.1, mo_t c211.2 b10.2⟩
          rw [show vRegr S 2 0 = rgV (vw S) 2 0 from rfl]
          refine rc_SL2 (pc := 226) B dX8_digest_226 st_X8_mix lk_8_321 (ct_X8_mix _ _ _ _  ) (Nat.le_of_ble_eq_true rfl) (Nat.le_of_ble_eq_true rfl) ?_
          refine rr_aload0 (pc := 229) B dX8_digest_229 ?_
          refine rr_iconst (z := 2) (pc := 230) B dX8_digest_230 ?_
          refine rr_iconst (z := 1) (pc := 231) B dX8_digest_231 ?_
          refine rc_VLR2 (pc := 232) B dX8_digest_232 vm_X8_regrets lk_8_353 so_8 rfl (ct_X8_regrets _ _ _ _ _ (by exact c223.1) (by exact H1) (by exact H2) (by omega)) (Nat.le_of_ble_eq_true rfl) (Nat.le_of_ble_eq_true rfl) (fun Mb11 b11 => ?_)
          have c232 : RC S Mb11 ∧ mo M Mb11 := ⟨b11.1, mo_t c223.2 b11.2⟩
          rw [show vRegr S 2 1 = rgV (vw S) 2 1 from rfl]
          refine rc_SL2 (pc := 235) B dX8_digest_235 st_X8_mix lk_8_321 (ct_X8_mix _ _ _ _  ) (Nat.le_of_ble_eq_true rfl) (Nat.le_of_ble_eq_true rfl) ?_
          refine rr_lreturn (pc := 238) B Br dX8_digest_238 ⟨congrArg (fun z => some (aL z)) ?_, ?_⟩
          · rw [K2, show k = 4 by omega]; rfl
          · exact c232
        · refine rr_iconst (z := 0) (pc := 106) B dX8_digest_106 ?_
          refine rr_istore4 (pc := 107) B dX8_digest_107 rfl ?_
          refine ih.2.2.2.1 _ _ _ _ ?_ ?_ ?_ ?_ ?_
          · exact K0
          · omega
          · omega
          · exact K2
          · omega
      · intro M1 z k w K0 K1 K2 K3 hm
        refine rr_rg (fun G1 => ?_)
        refine rr_iload4 (pc := 109) B dX8_digest_109 ?_
        refine rr_iconst (z := 2) (pc := 111) B dX8_digest_111 ?_
        refine rr_icmp_gt 134 (pc := 112) B dX8_digest_112 (by decide) (by omega) (fun b1 => ?_) (fun b1 => ?_)
        · refine rr_iinc3 (z := 1) (pc := 134) B dX8_digest_134 rfl ?_
          refine rr_goto 101 (pc := 137) B dX8_digest_137 (by decide) ?_
          refine ih.2.2.1 _ _ _ _ ?_ ?_ ?_ ?_
          · exact K0
          · omega
          · rw [show dg3 S (k + 1) = dgK (vw S) k (dg3 S k) 3 from itI_s _ _ K1.1, K3, show w = 3 by omega]
          · omega
        · refine rr_lload1 (pc := 115) B dX8_digest_115 ?_
          refine rr_aload0 (pc := 116) B dX8_digest_116 ?_
          refine rr_iload3 (pc := 117) B dX8_digest_117 ?_
          refine rr_iload4 (pc := 118) B dX8_digest_118 ?_
          refine rc_VIR2 (pc := 120) B dX8_digest_120 vm_X8_rule lk_8_338 so_8 rfl (ct_X8_rule _ _ _ _ _ (by exact K0.1) (by exact H1) (by exact H2) (by omega)) (Nat.le_of_ble_eq_true rfl) (Nat.le_of_ble_eq_true rfl) (fun Mb2 b2 => ?_)
          have c120 : RC S Mb2 ∧ mo M Mb2 := ⟨b2.1, mo_t K0.2 b2.2⟩
          rw [show vRule S k w = rOf (vw S) k w from if_pos (by omega)]
          refine rr_i2l (pc := 123) B dX8_digest_123 (by have := rOf_r G1 H2 K0.1 (k := k) (by omega) w; omega) ?_
          refine rc_SL2 (pc := 124) B dX8_digest_124 st_X8_mix lk_8_321 (ct_X8_mix _ _ _ _  ) (Nat.le_of_ble_eq_true rfl) (Nat.le_of_ble_eq_true rfl) ?_
          refine rr_lstore1 (pc := 127) B dX8_digest_127 rfl ?_
          refine rr_iinc4 (z := 1) (pc := 128) B dX8_digest_128 rfl ?_
          refine rr_goto 109 (pc := 131) B dX8_digest_131 (by decide) ?_
          refine ih.2.2.2.1 _ _ _ _ ?_ ?_ ?_ ?_ ?_
          · exact c120
          · omega
          · omega
          · rw [show dgK (vw S) k (dg3 S k) (w + 1) = mx (dgK (vw S) k (dg3 S k) w) (rOf (vw S) k w) from itI_s _ _ (by omega), ← K3]; rfl
          · omega
  refine rr_ldc2 (z := 17) (pc := 0) B dX8_digest_0 cn_8_316 (by decide) ?_
  refine rr_lstore1 (pc := 3) B dX8_digest_3 rfl ?_
  refine rr_iconst (z := 0) (pc := 4) B dX8_digest_4 ?_
  refine rr_istore3 (pc := 5) B dX8_digest_5 rfl ?_
  refine (L _).1 _ _ _ ?_ ?_ ?_ (Nat.lt_succ_self _)
  · exact ⟨H0, mo_r M⟩
  · omega
  · rfl
