theorem lik_r (V : ax_M) (d h : Int) : -3 ≤ lik V d h ∧ lik V d h ≤ 100 := by
  unfold lik
  have h1 := on_r (cm V d h)
  have h2 := on_r (V 51 d)
  have h3 : 0 ≤ 3 * on (cm V d h) / on (V 51 d) ∧ 3 * on (cm V d h) / on (V 51 d) ≤ 30 := by
    refine ⟨Int.ediv_nonneg (by omega) h2.1, ?_⟩
    have := Int.ediv_le_self (a := 3 * on (cm V d h)) (on (V 51 d)) (by omega)
    omega
  split
  · omega
  · split <;> split <;> omega
set_option maxHeartbeats 4000000 in
set_option maxRecDepth 100000 in
theorem ct_X9_lowest (g : ax_G) (M : ax_M) (top bottom what : Int) (H0 : 0 ≤ top ∧ top ≤ 9223372036854775807) (H1 : 0 < bottom ∧ bottom ≤ 9223372036854775807) (H2 : 0 ≤ what ∧ what ≤ 1) : CT g md_X9_lowest 0 [aL top, aL bottom, aI what] M (pL (lowV top bottom what) (M)) := by
  refine ct_intro 6 rfl rfl ?_
  intro X hg B Br
  subst hg
  show AW X 0 [some (aL top), none, some (aL bottom), none, some (aI what), none, none, none, none, none, none] [] M
  refine rr_rg (fun G0 => ?_)
  have L : ∀ nn : Nat, (∀ (x y : Int) (w9 w10 : Option ax_V), (0 ≤ x ∧ x ≤ 9223372036854775807) → (0 ≤ y ∧ y ≤ 9223372036854775807) → (0 < x ∨ 0 < y) → (Int.gcd x y = Int.gcd top bottom) → (y.toNat) < nn → AW X 6 [some (aL top), none, some (aL bottom), none, some (aI what), some (aL x), none, some (aL y), none, w9, w10] [] M) ∧ True := by
    intro nn
    induction nn with
    | zero => exact ⟨by intros; omega, trivial⟩
    | succ nn ih =>
      refine ⟨?_, trivial⟩
      · intro x y w9 w10 K0 K1 K2 K3 hm
        refine rr_lload7 (pc := 6) B dX9_lowest_6 ?_
        refine rr_lconst0 (pc := 8) B dX9_lowest_8 ?_
        refine rr_lcmp_eq 31 (pc := 9) B dX9_lowest_9 dX9_lowest_10 (by decide) (by omega) (fun b1 => ?_) (fun b1 => ?_)
        · refine rr_iload4 (pc := 31) B dX9_lowest_31 ?_
          refine rr_if_ne 43 (pc := 33) B dX9_lowest_33 (by decide) (by omega) (fun b2 => ?_) (fun b2 => ?_)
          · refine rr_lload2 (pc := 43) B dX9_lowest_43 ?_
            refine rr_lload5 (pc := 44) B dX9_lowest_44 ?_
            refine rr_ldiv (pc := 46) B dX9_lowest_46 (by omega) ?_
            refine rr_lreturn (pc := 47) B Br dX9_lowest_47 ⟨congrArg (fun z => some (aL z)) ?_, ?_⟩
            · unfold lowV; rw [← K3, show y = 0 by omega, gcd_0 K0.1]; first | (rw [if_pos (by omega)]; done) | (rw [if_neg (by omega)]; done)
            · first | rfl | assumption
          · refine rr_lload0 (pc := 36) B dX9_lowest_36 ?_
            refine rr_lload5 (pc := 37) B dX9_lowest_37 ?_
            refine rr_ldiv (pc := 39) B dX9_lowest_39 (by omega) ?_
            refine rr_goto 47 (pc := 40) B dX9_lowest_40 (by decide) ?_
            refine rr_lreturn (pc := 47) B Br dX9_lowest_47 ⟨congrArg (fun z => some (aL z)) ?_, ?_⟩
            · unfold lowV; rw [← K3, show y = 0 by omega, gcd_0 K0.1]; first | (rw [if_pos (by omega)]; done) | (rw [if_neg (by omega)]; done)
            · first | rfl | assumption
        · refine rr_lload5 (pc := 13) B dX9_lowest_13 ?_
          refine rr_lload7 (pc := 15) B dX9_lowest_15 ?_
          refine rr_lrem (pc := 17) B dX9_lowest_17 (by omega) ?_
          refine rr_lstore9 (pc := 18) B dX9_lowest_18 rfl ?_
          refine rr_lload7 (pc := 20) B dX9_lowest_20 ?_
          refine rr_lstore5 (pc := 22) B dX9_lowest_22 rfl ?_
          refine rr_lload9 (pc := 24) B dX9_lowest_24 ?_
          refine rr_lstore7 (pc := 26) B dX9_lowest_26 rfl ?_
          refine rr_goto 6 (pc := 28) B dX9_lowest_28 (by decide) ?_
          refine ih.1 _ _ _ _ ?_ ?_ ?_ ?_ ?_
          · omega
          · have := Int.emod_nonneg x (b := y) (by omega); have := Int.emod_lt_of_pos x (b := y) (by omega); omega
          · omega
          · rw [gcd_st K0.1 (by omega)]; exact K3
          · have := Int.emod_nonneg x (b := y) (by omega); have := Int.emod_lt_of_pos x (b := y) (by omega); omega
  refine rr_lload0 (pc := 0) B dX9_lowest_0 ?_
  refine rr_lstore5 (pc := 1) B dX9_lowest_1 rfl ?_
  refine rr_lload2 (pc := 3) B dX9_lowest_3 ?_
  refine rr_lstore7 (pc := 4) B dX9_lowest_4 rfl ?_
  refine (L _).1 _ _ _ _ ?_ ?_ ?_ ?_ (Nat.lt_succ_self _)
  · omega
  · omega
  · omega
  · rfl
set_option maxHeartbeats 4000000 in
set_option maxRecDepth 100000 in
theorem ct_X9_choose (g : ax_G) (M : ax_M) (n k : Int) (H0 : 0 ≤ n ∧ n ≤ 8) (H1 : 0 ≤ k ∧ k ≤ 8) : CT g md_X9_choose 0 [aI n, aI k] M (pL (chV n k) (M)) := by
  refine ct_intro 3 rfl rfl ?_
  intro X hg B Br
  subst hg
  show AW X 0 [some (aI n), some (aI k), none, none, none] [] M
  refine rr_rg (fun G0 => ?_)
  have L : ∀ nn : Nat, (∀ (b j : Int), (1 ≤ j ∧ j ≤ k + 1) → (n < k → b = 0) → (k ≤ n → b = chI n k (j - 1)) → (0 ≤ b ∧ b ≤ 1000) → ((9 - j).toNat) < nn → AW X 18 [some (aI n), some (aI k), some (aL b), none, some (aI j)] [] M) ∧ True := by
    intro nn
    induction nn with
    | zero => exact ⟨by intros; omega, trivial⟩
    | succ nn ih =>
      refine ⟨?_, trivial⟩
      · intro b j K0 K1 K2 K3 hm
        refine rr_iload4 (pc := 18) B dX9_choose_18 ?_
        refine rr_iload1 (pc := 20) B dX9_choose_20 ?_
        refine rr_icmp_gt 50 (pc := 21) B dX9_choose_21 (by decide) (by omega) (fun b1 => ?_) (fun b1 => ?_)
        · refine rr_lload2 (pc := 50) B dX9_choose_50 ?_
          refine rr_lreturn (pc := 51) B Br dX9_choose_51 ⟨congrArg (fun z => some (aL z)) ?_, ?_⟩
          · unfold chV
            by_cases q : k > n
            · rw [if_pos (by omega)]; exact K1 (by omega)
            · rw [if_neg (by omega), K2 (by omega)]
              have r := chI_r (n := n) (k := k) (j := j - 1) (by omega) (by omega) (by omega)
              have e := K2 (by omega)
              rw [show j - 1 = k by omega]; rfl
          · first | rfl | assumption
        · refine rr_lload2 (pc := 24) B dX9_choose_24 ?_
          refine rr_lconst0 (pc := 25) B dX9_choose_25 ?_
          refine rr_lcmp_le 50 (pc := 26) B dX9_choose_26 dX9_choose_27 (by decide) (by omega) (fun b2 => ?_) (fun b2 => ?_)
          · refine rr_lload2 (pc := 50) B dX9_choose_50 ?_
            refine rr_lreturn (pc := 51) B Br dX9_choose_51 ⟨congrArg (fun z => some (aL z)) ?_, ?_⟩
            · unfold chV
              by_cases q : k > n
              · rw [if_pos (by omega)]; exact K1 (by omega)
              · rw [if_neg (by omega), K2 (by omega)]
                have r := chI_r (n := n) (k := k) (j := j - 1) (by omega) (by omega) (by omega)
                have e := K2 (by omega)
                rw [show j - 1 = k by omega]; rfl
            · first | rfl | assumption
          · refine rr_lload2 (pc := 30) B dX9_choose_30 ?_
            refine rr_iload0 (pc := 31) B dX9_choose_31 ?_
            refine rr_iload1 (pc := 32) B dX9_choose_32 ?_
            refine rr_isub (pc := 33) B dX9_choose_33 ?_
            refine rr_iload4 (pc := 34) B dX9_choose_34 ?_
            refine rr_iadd (pc := 36) B dX9_choose_36 ?_
            refine rr_i2l (pc := 37) B dX9_choose_37 (by omega) ?_
            refine rr_lmul (pc := 38) B dX9_choose_38 ?_
            refine rr_iload4 (pc := 39) B dX9_choose_39 ?_
            refine rr_i2l (pc := 41) B dX9_choose_41 (by omega) ?_
            refine rr_ldiv (pc := 42) B dX9_choose_42 (by have := mulB (A := 1000) (B := 16) K3 (show 0 ≤ n - k + j ∧ n - k + j ≤ 16 by omega); omega) ?_
            refine rr_lstore2 (pc := 43) B dX9_choose_43 rfl ?_
            refine rr_iinc4 (z := 1) (pc := 44) B dX9_choose_44 rfl ?_
            refine rr_goto 18 (pc := 47) B dX9_choose_47 (by decide) ?_
            refine ih.1 _ _ ?_ ?_ ?_ ?_ ?_
            · omega
            · first | omega | (intro q; omega)
            · intro q; rw [show j + 1 - 1 = (j - 1) + 1 by omega]; unfold chI; rw [itI_s _ _ (by omega)]; show _ = chI n k (j - 1) * (n - k + (j - 1 + 1)) / (j - 1 + 1); rw [← K2 q, show j - 1 + 1 = j by omega]
            · have q : k ≤ n := by omega
              have e : b * (n - k + j) / j = chI n k j := by
                rw [K2 q]
                have e2 := itI_s (fun j b => b * (n - k + (j + 1)) / (j + 1)) 1 (p := j - 1) (by omega)
                rw [show j - 1 + 1 = j by omega] at e2
                exact e2.symm
              rw [e]
              have := chI_r (n := n) (k := k) (j := j) (by omega) (by omega) (by omega)
              omega
            · omega
  refine rr_iload1 (pc := 0) B dX9_choose_0 ?_
  refine rr_if_lt 9 (pc := 1) B dX9_choose_1 (by decide) (by omega) (fun b1 => ?_) (fun b1 => ?_)
  · refine rr_lconst0 (pc := 9) B dX9_choose_9 ?_
    refine rr_goto 14 (pc := 10) B dX9_choose_10 (by decide) ?_
    refine rr_lstore2 (pc := 14) B dX9_choose_14 rfl ?_
    refine rr_iconst (z := 1) (pc := 15) B dX9_choose_15 ?_
    refine rr_istore4 (pc := 16) B dX9_choose_16 rfl ?_
    refine (L _).1 _ _ ?_ ?_ ?_ ?_ (Nat.lt_succ_self _)
    · omega
    · first | omega | (intro q; omega)
    · first | (intro q; omega) | (intro q; rfl)
    · omega
  · refine rr_iload1 (pc := 4) B dX9_choose_4 ?_
    refine rr_iload0 (pc := 5) B dX9_choose_5 ?_
    refine rr_icmp_le 13 (pc := 6) B dX9_choose_6 (by decide) (by omega) (fun b2 => ?_) (fun b2 => ?_)
    · refine rr_lconst1 (pc := 13) B dX9_choose_13 ?_
      refine rr_lstore2 (pc := 14) B dX9_choose_14 rfl ?_
      refine rr_iconst (z := 1) (pc := 15) B dX9_choose_15 ?_
      refine rr_istore4 (pc := 16) B dX9_choose_16 rfl ?_
      refine (L _).1 _ _ ?_ ?_ ?_ ?_ (Nat.lt_succ_self _)
      · omega
      · first | omega | (intro q; omega)
      · first | (intro q; omega) | (intro q; rfl)
      · omega
    · refine rr_lconst0 (pc := 9) B dX9_choose_9 ?_
      refine rr_goto 14 (pc := 10) B dX9_choose_10 (by decide) ?_
      refine rr_lstore2 (pc := 14) B dX9_choose_14 rfl ?_
      refine rr_iconst (z := 1) (pc := 15) B dX9_choose_15 ?_
      refine rr_istore4 (pc := 16) B dX9_choose_16 rfl ?_
      refine (L _).1 _ _ ?_ ?_ ?_ ?_ (Nat.lt_succ_self _)
      · omega
      · first | omega | (intro q; omega)
      · first | (intro q; omega) | (intro q; rfl)
      · omega
set_option maxHeartbeats 4000000 in
set_option maxRecDepth 100000 in
theorem ct_X9_oddsOf (g : ax_G) (M : ax_M) (d h what : Int) (V : ax_M) (H0 : AgM V M) (H1 : 0 ≤ d ∧ d < V 9 2) (H2 : 0 ≤ h ∧ h ≤ 7) (H3 : 0 < V 51 d) (H4 : 0 ≤ what ∧ what ≤ 1) : CT g md_X9_oddsOf 4 [aR 9, aI d, aI h, aI what] M (pL (odV V d h what) (M)) := by
  refine ct_intro 7 rfl rfl ?_
  intro X hg B Br
  subst hg
  show AW X 0 [some (aR 9), some (aI d), some (aI h), some (aI what), none, none, none, none, none, none, none] [] M
  refine rr_rg (fun G0 => ?_)
  have HV := H0
  have C1 := cm_r V d h
  have O1 := oTop_r V d h (fun p q1 q2 => by have := G0.at (sa_58.2.2 p); rw [HV 58 p trivial] at this; exact this)
  have O2 := oBot_r V d h
  have L1 : lik V d h ≠ -3 → cm V d h ≠ -3 := fun q w => q (by unfold lik; rw [if_pos w])
  have L2 : -3 ≤ lik V d h ∧ lik V d h ≤ 100 := lik_r V d h
  have L : ∀ nn : Nat, (∀ (t b p : Int), (0 ≤ p ∧ p ≤ 8) → (t = itI (fun p t => if tb (cm V d h) p = true ∧ lik V d h < V 60 3 then t * (16 - V 58 p) else t) 1 p) → (b = itI (fun p t => if tb (cm V d h) p = true ∧ lik V d h < V 60 3 then t * 16 else t) 1 p) → (lik V d h ≠ -3) → ((8 - p).toNat) < nn → AW X 38 [some (aR 9), some (aI d), some (aI h), some (aI what), some (aI (lik V d h)), some (aI (cm V d h)), some (aL t), none, some (aL b), none, some (aI p)] [] M) ∧ True := by
    intro nn
    induction nn with
    | zero => exact ⟨by intros; omega, trivial⟩
    | succ nn ih =>
      refine ⟨?_, trivial⟩
      · intro t b p K0 K1 K2 K3 hm
        have C2 := L1 K3
        refine rr_iload10 (pc := 38) B dX9_oddsOf_38 ?_
        refine rr_bipush (z := 8) (pc := 40) B dX9_oddsOf_40 (by decide) ?_
        refine rr_icmp_ge 96 (pc := 42) B dX9_oddsOf_42 (by decide) (by omega) (fun b1 => ?_) (fun b1 => ?_)
        · refine rr_lload6 (pc := 96) B dX9_oddsOf_96 ?_
          refine rr_lload8 (pc := 98) B dX9_oddsOf_98 ?_
          refine rr_iload3 (pc := 100) B dX9_oddsOf_100 ?_
          refine rc_SL3 (pc := 101) B dX9_oddsOf_101 st_X9_lowest lk_9_235 (ct_X9_lowest _ _ _ _ _  (by have e : t = oTop V d h := (by rw [K1, show p = 8 by omega]; rfl); rw [e]; omega) (by have e : b = oBot V d h := (by rw [K2, show p = 8 by omega]; rfl); rw [e]; omega) (by omega)) (Nat.le_of_ble_eq_true rfl) (Nat.le_of_ble_eq_true rfl) ?_
          refine rr_lreturn (pc := 104) B Br dX9_oddsOf_104 ⟨congrArg (fun z => some (aL z)) ?_, ?_⟩
          · unfold odV; rw [if_neg (by omega), show t = oTop V d h by rw [K1, show p = 8 by omega]; rfl, show b = oBot V d h by rw [K2, show p = 8 by omega]; rfl]
          · first | rfl | assumption
        · refine rr_iload5 (pc := 45) B dX9_oddsOf_45 ?_
          refine rr_iload10 (pc := 47) B dX9_oddsOf_47 ?_
          refine rc_SI2 (pc := 49) B dX9_oddsOf_49 st_X9_isIn lk_9_119 (ct_X9_isIn _ _ _ _  (by first | assumption | omega) (by first | assumption | omega)) (Nat.le_of_ble_eq_true rfl) (Nat.le_of_ble_eq_true rfl) ?_
          refine rr_if_eqB 90 (pc := 52) B dX9_oddsOf_52 (by decide) (fun b2 => ?_) (fun b2 => ?_)
          · refine rr_iinc10 (z := 1) (pc := 90) B dX9_oddsOf_90 rfl ?_
            refine rr_goto 38 (pc := 93) B dX9_oddsOf_93 (by decide) ?_
            refine ih.1 _ _ _ ?_ ?_ ?_ ?_ ?_
            · omega
            · rw [itI_s _ _ (by omega), ← K1]; first | (rw [if_pos ⟨by assumption, by omega⟩]; done) | (rw [if_neg (by rintro ⟨q1, q2⟩; first | omega | (simp_all; done))]; done)
            · rw [itI_s _ _ (by omega), ← K2]; first | (rw [if_pos ⟨by assumption, by omega⟩]; done) | (rw [if_neg (by rintro ⟨q1, q2⟩; first | omega | (simp_all; done))]; done)
            · assumption
            · omega
          · refine rr_iload4 (pc := 55) B dX9_oddsOf_55 ?_
            refine rr_aload0 (pc := 57) B dX9_oddsOf_57 ?_
            refine rr_getR (pc := 58) B dX9_oddsOf_58 fl_9_55 or_9_17 ?_
            refine rr_iconst (z := 3) (pc := 61) B dX9_oddsOf_61 ?_
            refine rr_ialoadE (pc := 62) B dX9_oddsOf_62 sa_60 (by omega) (HV 60 _ trivial) (fun b3 => ?_)
            refine rr_icmp_ge 90 (pc := 63) B dX9_oddsOf_63 (by decide) (by omega) (fun b4 => ?_) (fun b4 => ?_)
            · refine rr_iinc10 (z := 1) (pc := 90) B dX9_oddsOf_90 rfl ?_
              refine rr_goto 38 (pc := 93) B dX9_oddsOf_93 (by decide) ?_
              refine ih.1 _ _ _ ?_ ?_ ?_ ?_ ?_
              · omega
              · rw [itI_s _ _ (by omega), ← K1]; first | (rw [if_pos ⟨by assumption, by omega⟩]; done) | (rw [if_neg (by rintro ⟨q1, q2⟩; first | omega | (simp_all; done))]; done)
              · rw [itI_s _ _ (by omega), ← K2]; first | (rw [if_pos ⟨by assumption, by omega⟩]; done) | (rw [if_neg (by rintro ⟨q1, q2⟩; first | omega | (simp_all; done))]; done)
              · assumption
              · omega
            · refine rr_lload6 (pc := 66) B dX9_oddsOf_66 ?_
              refine rr_bipush (z := 16) (pc := 68) B dX9_oddsOf_68 (by decide) ?_
              refine rr_aload0 (pc := 70) B dX9_oddsOf_70 ?_
              refine rr_getR (pc := 71) B dX9_oddsOf_71 fl_9_49 or_9_15 ?_
              refine rr_iload10 (pc := 74) B dX9_oddsOf_74 ?_
              refine rr_ialoadE (pc := 76) B dX9_oddsOf_76 sa_58 (by omega) (HV 58 _ trivial) (fun b5 => ?_)
              refine rr_isub (pc := 77) B dX9_oddsOf_77 ?_
              refine rr_i2l (pc := 78) B dX9_oddsOf_78 (by omega) ?_
              refine rr_lmul (pc := 79) B dX9_oddsOf_79 ?_
              refine rr_lstore6 (pc := 80) B dX9_oddsOf_80 rfl ?_
              refine rr_lload8 (pc := 82) B dX9_oddsOf_82 ?_
              refine rr_ldc2 (z := 16) (pc := 84) B dX9_oddsOf_84 cn_9_233 (by decide) ?_
              refine rr_lmul (pc := 87) B dX9_oddsOf_87 ?_
              refine rr_lstore8 (pc := 88) B dX9_oddsOf_88 rfl ?_
              refine rr_iinc10 (z := 1) (pc := 90) B dX9_oddsOf_90 rfl ?_
              refine rr_goto 38 (pc := 93) B dX9_oddsOf_93 (by decide) ?_
              refine ih.1 _ _ _ ?_ ?_ ?_ ?_ ?_
              · omega
              · rw [itI_s _ _ (by omega), ← K1]; first | (rw [if_pos ⟨by assumption, by omega⟩]; done) | (rw [if_neg (by rintro ⟨q1, q2⟩; first | omega | (simp_all; done))]; done)
              · rw [itI_s _ _ (by omega), ← K2]; first | (rw [if_pos ⟨by assumption, by omega⟩]; done) | (rw [if_neg (by rintro ⟨q1, q2⟩; first | omega | (simp_all; done))]; done)
              · assumption
              · omega
  refine rr_aload0 (pc := 0) B dX9_oddsOf_0 ?_
  refine rr_iload1 (pc := 1) B dX9_oddsOf_1 ?_
  refine rr_iload2 (pc := 2) B dX9_oddsOf_2 ?_
  refine rc_VI2 (pc := 3) B dX9_oddsOf_3 vm_X9_likenessOf lk_9_226 so_9 rfl (ct_X9_likenessOf _ _ _ _ _ (by first | assumption | omega) (by first | assumption | omega) (by first | assumption | omega) (by first | assumption | omega)) (Nat.le_of_ble_eq_true rfl) (Nat.le_of_ble_eq_true rfl) ?_
  refine rr_istore4 (pc := 6) B dX9_oddsOf_6 rfl ?_
  refine rr_iload4 (pc := 8) B dX9_oddsOf_8 ?_
  refine rr_bipush (z := (-3)) (pc := 10) B dX9_oddsOf_10 (by decide) ?_
  refine rr_icmp_ne 21 (pc := 12) B dX9_oddsOf_12 (by decide) (by omega) (fun b1 => ?_) (fun b1 => ?_)
  · refine rr_aload0 (pc := 21) B dX9_oddsOf_21 ?_
    refine rr_iload1 (pc := 22) B dX9_oddsOf_22 ?_
    refine rr_iload2 (pc := 23) B dX9_oddsOf_23 ?_
    refine rc_VI2 (pc := 24) B dX9_oddsOf_24 vm_X9_comesOf lk_9_173 so_9 rfl (ct_X9_comesOf _ _ _ _ _ (by first | assumption | omega) (by first | assumption | omega) (by first | assumption | omega)) (Nat.le_of_ble_eq_true rfl) (Nat.le_of_ble_eq_true rfl) ?_
    refine rr_istore5 (pc := 27) B dX9_oddsOf_27 rfl ?_
    refine rr_lconst1 (pc := 29) B dX9_oddsOf_29 ?_
    refine rr_lstore6 (pc := 30) B dX9_oddsOf_30 rfl ?_
    refine rr_lconst1 (pc := 32) B dX9_oddsOf_32 ?_
    refine rr_lstore8 (pc := 33) B dX9_oddsOf_33 rfl ?_
    refine rr_iconst (z := 0) (pc := 35) B dX9_oddsOf_35 ?_
    refine rr_istore10 (pc := 36) B dX9_oddsOf_36 rfl ?_
    refine (L _).1 _ _ _ ?_ ?_ ?_ ?_ (Nat.lt_succ_self _)
    · omega
    · rfl
    · rfl
    · assumption
  · refine rr_bipush (z := (-3)) (pc := 15) B dX9_oddsOf_15 (by decide) ?_
    refine rc_SL1 (pc := 17) B dX9_oddsOf_17 st_X9_no lk_9_229 (ct_X9_no _ _ _  (by omega)) (Nat.le_of_ble_eq_true rfl) (Nat.le_of_ble_eq_true rfl) ?_
    refine rr_lreturn (pc := 20) B Br dX9_oddsOf_20 ⟨congrArg (fun z => some (aL z)) ?_, ?_⟩
    · unfold odV; rw [if_pos (by omega)]
    · first | rfl | assumption
set_option maxHeartbeats 4000000 in
set_option maxRecDepth 100000 in
theorem ct_X9_deedOf (g : ax_G) (M : ax_M) (d what : Int) (V : ax_M) (H0 : AgM V M) (H1 : 0 ≤ d ∧ d < V 9 2) (H2 : 0 ≤ what ∧ what ≤ 4) : CT g md_X9_deedOf 0 [aR 9, aI d, aI what] M (pI (if what = 0 then V 47 d else if what = 1 then V 48 d else if what = 2 then V 49 d else if what = 3 then V 50 d else V 51 d) (M)) := by
  refine ct_intro 0 rfl rfl ?_
  intro X hg B Br
  subst hg
  show AW X 0 [some (aR 9), some (aI d), some (aI what)] [] M
  refine rr_rg (fun G0 => ?_)
  have HV := H0
  have D8 : V 9 2 ≤ 8 := by have := G0.at ob_9_2.2.1; rw [HV 9 2 (Or.inl rfl)] at this; omega
  refine rr_iload2 (pc := 0) B dX9_deedOf_0 ?_
  refine rr_if_ne 13 (pc := 1) B dX9_deedOf_1 (by decide) (by omega) (fun b1 => ?_) (fun b1 => ?_)
  · refine rr_iload2 (pc := 13) B dX9_deedOf_13 ?_
    refine rr_iconst (z := 1) (pc := 14) B dX9_deedOf_14 ?_
    refine rr_icmp_ne 27 (pc := 15) B dX9_deedOf_15 (by decide) (by omega) (fun b2 => ?_) (fun b2 => ?_)
    · refine rr_iload2 (pc := 27) B dX9_deedOf_27 ?_
      refine rr_iconst (z := 2) (pc := 28) B dX9_deedOf_28 ?_
      refine rr_icmp_ne 41 (pc := 29) B dX9_deedOf_29 (by decide) (by omega) (fun b3 => ?_) (fun b3 => ?_)
      · refine rr_iload2 (pc := 41) B dX9_deedOf_41 ?_
        refine rr_iconst (z := 3) (pc := 42) B dX9_deedOf_42 ?_
        refine rr_icmp_ne 55 (pc := 43) B dX9_deedOf_43 (by decide) (by omega) (fun b4 => ?_) (fun b4 => ?_)
        · refine rr_aload0 (pc := 55) B dX9_deedOf_55 ?_
          refine rr_getR (pc := 56) B dX9_deedOf_56 fl_9_28 or_9_7 ?_
          refine rr_iload1 (pc := 59) B dX9_deedOf_59 ?_
          refine rr_ialoadE (pc := 60) B dX9_deedOf_60 sa_51 (by omega) (HV 51 _ ⟨by omega, by omega⟩) (fun b5 => ?_)
          refine rr_ireturn (pc := 61) B Br dX9_deedOf_61 ⟨congrArg (fun z => some (aI z)) ?_, ?_⟩
          · repeat (first | rw [if_pos (by omega)] | rw [if_neg (by omega)])
          · first | rfl | assumption
        · refine rr_aload0 (pc := 46) B dX9_deedOf_46 ?_
          refine rr_getR (pc := 47) B dX9_deedOf_47 fl_9_25 or_9_6 ?_
          refine rr_iload1 (pc := 50) B dX9_deedOf_50 ?_
          refine rr_ialoadE (pc := 51) B dX9_deedOf_51 sa_50 (by omega) (HV 50 _ ⟨by omega, by omega⟩) (fun b5 => ?_)
          refine rr_goto 61 (pc := 52) B dX9_deedOf_52 (by decide) ?_
          refine rr_ireturn (pc := 61) B Br dX9_deedOf_61 ⟨congrArg (fun z => some (aI z)) ?_, ?_⟩
          · repeat (first | rw [if_pos (by omega)] | rw [if_neg (by omega)])
          · first | rfl | assumption
      · refine rr_aload0 (pc := 32) B dX9_deedOf_32 ?_
        refine rr_getR (pc := 33) B dX9_deedOf_33 fl_9_22 or_9_5 ?_
        refine rr_iload1 (pc := 36) B dX9_deedOf_36 ?_
        refine rr_ialoadE (pc := 37) B dX9_deedOf_37 sa_49 (by omega) (HV 49 _ ⟨by omega, by omega⟩) (fun b4 => ?_)
        refine rr_goto 61 (pc := 38) B dX9_deedOf_38 (by decide) ?_
        refine rr_ireturn (pc := 61) B Br dX9_deedOf_61 ⟨congrArg (fun z => some (aI z)) ?_, ?_⟩
        · repeat (first | rw [if_pos (by omega)] | rw [if_neg (by omega)])
        · first | rfl | assumption
    · refine rr_aload0 (pc := 18) B dX9_deedOf_18 ?_
      refine rr_getR (pc := 19) B dX9_deedOf_19 fl_9_19 or_9_4 ?_
      refine rr_iload1 (pc := 22) B dX9_deedOf_22 ?_
      refine rr_ialoadE (pc := 23) B dX9_deedOf_23 sa_48 (by omega) (HV 48 _ ⟨by omega, by omega⟩) (fun b3 => ?_)
      refine rr_goto 61 (pc := 24) B dX9_deedOf_24 (by decide) ?_
      refine rr_ireturn (pc := 61) B Br dX9_deedOf_61 ⟨congrArg (fun z => some (aI z)) ?_, ?_⟩
      · repeat (first | rw [if_pos (by omega)] | rw [if_neg (by omega)])
      · first | rfl | assumption
  · refine rr_aload0 (pc := 4) B dX9_deedOf_4 ?_
    refine rr_getR (pc := 5) B dX9_deedOf_5 fl_9_16 or_9_3 ?_
    refine rr_iload1 (pc := 8) B dX9_deedOf_8 ?_
    refine rr_ialoadE (pc := 9) B dX9_deedOf_9 sa_47 (by omega) (HV 47 _ ⟨by omega, by omega⟩) (fun b2 => ?_)
    refine rr_goto 61 (pc := 10) B dX9_deedOf_10 (by decide) ?_
    refine rr_ireturn (pc := 61) B Br dX9_deedOf_61 ⟨congrArg (fun z => some (aI z)) ?_, ?_⟩
    · repeat (first | rw [if_pos (by omega)] | rw [if_neg (by omega)])
    · first | rfl | assumption
set_option maxHeartbeats 4000000 in
set_option maxRecDepth 100000 in
theorem ct_X9_areFalse (g : ax_G) (M : ax_M) (a b : Int) (V : ax_M) (H0 : AgM V M) (H1 : 0 ≤ a ∧ a < V 9 26) (H2 : 0 ≤ b ∧ b < V 9 26) : CT g md_X9_areFalse 0 [aR 9, aI a, aI b] M (pI (bi (arF V a b)) (M)) := by
  refine ct_intro 3 rfl rfl ?_
  intro X hg B Br
  subst hg
  show AW X 0 [some (aR 9), some (aI a), some (aI b), none, none, none] [] M
  refine rr_rg (fun G0 => ?_)
  have HV := H0
  have S10 : 0 ≤ V 9 26 ∧ V 9 26 ≤ 10 := by have := G0.at ob_9_26.2.1; rw [HV 9 26 (by simp [relM])] at this; omega
  refine rr_aload0 (pc := 0) B dX9_areFalse_0 ?_
  refine rr_getR (pc := 1) B dX9_areFalse_1 fl_9_76 or_9_29 ?_
  refine rr_iload1 (pc := 4) B dX9_areFalse_4 ?_
  refine rr_ialoadE (pc := 5) B dX9_areFalse_5 sa_67 (by omega) (HV 67 _ trivial) (fun b1 => ?_)
  refine rr_aload0 (pc := 6) B dX9_areFalse_6 ?_
  refine rr_getR (pc := 7) B dX9_areFalse_7 fl_9_76 or_9_29 ?_
  refine rr_iload2 (pc := 10) B dX9_areFalse_10 ?_
  refine rr_ialoadE (pc := 11) B dX9_areFalse_11 sa_67 (by omega) (HV 67 _ trivial) (fun b2 => ?_)
  refine rr_isub (pc := 12) B dX9_areFalse_12 ?_
  refine rr_istore3 (pc := 13) B dX9_areFalse_13 rfl ?_
  refine rr_aload0 (pc := 14) B dX9_areFalse_14 ?_
  refine rr_getR (pc := 15) B dX9_areFalse_15 fl_9_73 or_9_28 ?_
  refine rr_iload1 (pc := 18) B dX9_areFalse_18 ?_
  refine rr_ialoadE (pc := 19) B dX9_areFalse_19 sa_66 (by omega) (HV 66 _ trivial) (fun b3 => ?_)
  refine rr_aload0 (pc := 20) B dX9_areFalse_20 ?_
  refine rr_getR (pc := 21) B dX9_areFalse_21 fl_9_73 or_9_28 ?_
  refine rr_iload2 (pc := 24) B dX9_areFalse_24 ?_
  refine rr_ialoadE (pc := 25) B dX9_areFalse_25 sa_66 (by omega) (HV 66 _ trivial) (fun b4 => ?_)
  refine rr_isub (pc := 26) B dX9_areFalse_26 ?_
  refine rr_istore4 (pc := 27) B dX9_areFalse_27 rfl ?_
  refine rr_iload4 (pc := 29) B dX9_areFalse_29 ?_
  refine rr_iconst (z := 2) (pc := 31) B dX9_areFalse_31 ?_
  refine rr_icmp_gt 42 (pc := 32) B dX9_areFalse_32 (by decide) (by omega) (fun b5 => ?_) (fun b5 => ?_)
  · refine rr_iconst (z := 1) (pc := 42) B dX9_areFalse_42 ?_
    refine rr_goto 47 (pc := 43) B dX9_areFalse_43 (by decide) ?_
    refine rr_istore5 (pc := 47) B dX9_areFalse_47 rfl ?_
    refine rr_aload0 (pc := 49) B dX9_areFalse_49 ?_
    refine rr_getR (pc := 50) B dX9_areFalse_50 fl_9_70 or_9_27 ?_
    refine rr_iload1 (pc := 53) B dX9_areFalse_53 ?_
    refine rr_ialoadE (pc := 54) B dX9_areFalse_54 sa_65 (by omega) (HV 65 _ trivial) (fun b6 => ?_)
    refine rr_aload0 (pc := 55) B dX9_areFalse_55 ?_
    refine rr_getR (pc := 56) B dX9_areFalse_56 fl_9_70 or_9_27 ?_
    refine rr_iload2 (pc := 59) B dX9_areFalse_59 ?_
    refine rr_ialoadE (pc := 60) B dX9_areFalse_60 sa_65 (by omega) (HV 65 _ trivial) (fun b7 => ?_)
    refine rr_icmp_ne 92 (pc := 61) B dX9_areFalse_61 (by decide) (by omega) (fun b8 => ?_) (fun b8 => ?_)
    · refine rr_iconst (z := 0) (pc := 92) B dX9_areFalse_92 ?_
      refine rr_zreturn (pc := 93) B Br dX9_areFalse_93 (by omega) ⟨congrArg (fun z => some (aI z)) ?_, ?_⟩
      · unfold arF; first | (rw [decide_eq_true (by omega)]; rfl) | (rw [decide_eq_false (by omega)]; rfl)
      · first | rfl | assumption
    · refine rr_iload3 (pc := 64) B dX9_areFalse_64 ?_
      refine rr_if_ne 73 (pc := 65) B dX9_areFalse_65 (by decide) (by omega) (fun b9 => ?_) (fun b9 => ?_)
      · refine rr_iload3 (pc := 73) B dX9_areFalse_73 ?_
        refine rr_iconst (z := 1) (pc := 74) B dX9_areFalse_74 ?_
        refine rr_icmp_eq 83 (pc := 75) B dX9_areFalse_75 (by decide) (by omega) (fun b10 => ?_) (fun b10 => ?_)
        · refine rr_iload5 (pc := 83) B dX9_areFalse_83 ?_
          refine rr_if_eq 92 (pc := 85) B dX9_areFalse_85 (by decide) (by omega) (fun b11 => absurd b11 (by omega)) (fun b11 => ?_)
          refine rr_iconst (z := 1) (pc := 88) B dX9_areFalse_88 ?_
          refine rr_goto 93 (pc := 89) B dX9_areFalse_89 (by decide) ?_
          refine rr_zreturn (pc := 93) B Br dX9_areFalse_93 (by omega) ⟨congrArg (fun z => some (aI z)) ?_, ?_⟩
          · unfold arF; first | (rw [decide_eq_true (by omega)]; rfl) | (rw [decide_eq_false (by omega)]; rfl)
          · first | rfl | assumption
        · refine rr_iload3 (pc := 78) B dX9_areFalse_78 ?_
          refine rr_iconst (z := (-1)) (pc := 79) B dX9_areFalse_79 ?_
          refine rr_icmp_ne 92 (pc := 80) B dX9_areFalse_80 (by decide) (by omega) (fun b11 => ?_) (fun b11 => ?_)
          · refine rr_iconst (z := 0) (pc := 92) B dX9_areFalse_92 ?_
            refine rr_zreturn (pc := 93) B Br dX9_areFalse_93 (by omega) ⟨congrArg (fun z => some (aI z)) ?_, ?_⟩
            · unfold arF; first | (rw [decide_eq_true (by omega)]; rfl) | (rw [decide_eq_false (by omega)]; rfl)
            · first | rfl | assumption
          · refine rr_iload5 (pc := 83) B dX9_areFalse_83 ?_
            refine rr_if_eq 92 (pc := 85) B dX9_areFalse_85 (by decide) (by omega) (fun b12 => absurd b12 (by omega)) (fun b12 => ?_)
            refine rr_iconst (z := 1) (pc := 88) B dX9_areFalse_88 ?_
            refine rr_goto 93 (pc := 89) B dX9_areFalse_89 (by decide) ?_
            refine rr_zreturn (pc := 93) B Br dX9_areFalse_93 (by omega) ⟨congrArg (fun z => some (aI z)) ?_, ?_⟩
            · unfold arF; first | (rw [decide_eq_true (by omega)]; rfl) | (rw [decide_eq_false (by omega)]; rfl)
            · first | rfl | assumption
      · refine rr_iload4 (pc := 68) B dX9_areFalse_68 ?_
        refine rr_if_ne 88 (pc := 70) B dX9_areFalse_70 (by decide) (by omega) (fun b10 => ?_) (fun b10 => ?_)
        · refine rr_iconst (z := 1) (pc := 88) B dX9_areFalse_88 ?_
          refine rr_goto 93 (pc := 89) B dX9_areFalse_89 (by decide) ?_
          refine rr_zreturn (pc := 93) B Br dX9_areFalse_93 (by omega) ⟨congrArg (fun z => some (aI z)) ?_, ?_⟩
          · unfold arF; first | (rw [decide_eq_true (by omega)]; rfl) | (rw [decide_eq_false (by omega)]; rfl)
          · first | rfl | assumption
        · refine rr_iload3 (pc := 73) B dX9_areFalse_73 ?_
          refine rr_iconst (z := 1) (pc := 74) B dX9_areFalse_74 ?_
          refine rr_icmp_eq 83 (pc := 75) B dX9_areFalse_75 (by decide) (by omega) (fun b11 => ?_) (fun b11 => ?_)
          · refine rr_iload5 (pc := 83) B dX9_areFalse_83 ?_
            refine rr_if_eq 92 (pc := 85) B dX9_areFalse_85 (by decide) (by omega) (fun b12 => absurd b12 (by omega)) (fun b12 => ?_)
            refine rr_iconst (z := 1) (pc := 88) B dX9_areFalse_88 ?_
            refine rr_goto 93 (pc := 89) B dX9_areFalse_89 (by decide) ?_
            refine rr_zreturn (pc := 93) B Br dX9_areFalse_93 (by omega) ⟨congrArg (fun z => some (aI z)) ?_, ?_⟩
            · unfold arF; first | (rw [decide_eq_true (by omega)]; rfl) | (rw [decide_eq_false (by omega)]; rfl)
            · first | rfl | assumption
          · refine rr_iload3 (pc := 78) B dX9_areFalse_78 ?_
            refine rr_iconst (z := (-1)) (pc := 79) B dX9_areFalse_79 ?_
            refine rr_icmp_ne 92 (pc := 80) B dX9_areFalse_80 (by decide) (by omega) (fun b12 => ?_) (fun b12 => ?_)
            · refine rr_iconst (z := 0) (pc := 92) B dX9_areFalse_92 ?_
              refine rr_zreturn (pc := 93) B Br dX9_areFalse_93 (by omega) ⟨congrArg (fun z => some (aI z)) ?_, ?_⟩
              · unfold arF; first | (rw [decide_eq_true (by omega)]; rfl) | (rw [decide_eq_false (by omega)]; rfl)
              · first | rfl | assumption
            · refine rr_iload5 (pc := 83) B dX9_areFalse_83 ?_
              refine rr_if_eq 92 (pc := 85) B dX9_areFalse_85 (by decide) (by omega) (fun b13 => absurd b13 (by omega)) (fun b13 => ?_)
              refine rr_iconst (z := 1) (pc := 88) B dX9_areFalse_88 ?_
              refine rr_goto 93 (pc := 89) B dX9_areFalse_89 (by decide) ?_
              refine rr_zreturn (pc := 93) B Br dX9_areFalse_93 (by omega) ⟨congrArg (fun z => some (aI z)) ?_, ?_⟩
              · unfold arF; first | (rw [decide_eq_true (by omega)]; rfl) | (rw [decide_eq_false (by omega)]; rfl)
              · first | rfl | assumption
  · refine rr_iload4 (pc := 35) B dX9_areFalse_35 ?_
    refine rr_bipush (z := (-2)) (pc := 37) B dX9_areFalse_37 (by decide) ?_
    refine rr_icmp_ge 46 (pc := 39) B dX9_areFalse_39 (by decide) (by omega) (fun b6 => ?_) (fun b6 => ?_)
    · refine rr_iconst (z := 0) (pc := 46) B dX9_areFalse_46 ?_
      refine rr_istore5 (pc := 47) B dX9_areFalse_47 rfl ?_
      refine rr_aload0 (pc := 49) B dX9_areFalse_49 ?_
      refine rr_getR (pc := 50) B dX9_areFalse_50 fl_9_70 or_9_27 ?_
      refine rr_iload1 (pc := 53) B dX9_areFalse_53 ?_
      refine rr_ialoadE (pc := 54) B dX9_areFalse_54 sa_65 (by omega) (HV 65 _ trivial) (fun b7 => ?_)
      refine rr_aload0 (pc := 55) B dX9_areFalse_55 ?_
      refine rr_getR (pc := 56) B dX9_areFalse_56 fl_9_70 or_9_27 ?_
      refine rr_iload2 (pc := 59) B dX9_areFalse_59 ?_
      refine rr_ialoadE (pc := 60) B dX9_areFalse_60 sa_65 (by omega) (HV 65 _ trivial) (fun b8 => ?_)
      refine rr_icmp_ne 92 (pc := 61) B dX9_areFalse_61 (by decide) (by omega) (fun b9 => ?_) (fun b9 => ?_)
      · refine rr_iconst (z := 0) (pc := 92) B dX9_areFalse_92 ?_
        refine rr_zreturn (pc := 93) B Br dX9_areFalse_93 (by omega) ⟨congrArg (fun z => some (aI z)) ?_, ?_⟩
        · unfold arF; first | (rw [decide_eq_true (by omega)]; rfl) | (rw [decide_eq_false (by omega)]; rfl)
        · first | rfl | assumption
      · refine rr_iload3 (pc := 64) B dX9_areFalse_64 ?_
        refine rr_if_ne 73 (pc := 65) B dX9_areFalse_65 (by decide) (by omega) (fun b10 => ?_) (fun b10 => ?_)
        · refine rr_iload3 (pc := 73) B dX9_areFalse_73 ?_
          refine rr_iconst (z := 1) (pc := 74) B dX9_areFalse_74 ?_
          refine rr_icmp_eq 83 (pc := 75) B dX9_areFalse_75 (by decide) (by omega) (fun b11 => ?_) (fun b11 => ?_)
          · refine rr_iload5 (pc := 83) B dX9_areFalse_83 ?_
            refine rr_if_eq 92 (pc := 85) B dX9_areFalse_85 (by decide) (by omega) (fun b12 => ?_) (fun b12 => absurd b12 (by omega))
            refine rr_iconst (z := 0) (pc := 92) B dX9_areFalse_92 ?_
            refine rr_zreturn (pc := 93) B Br dX9_areFalse_93 (by omega) ⟨congrArg (fun z => some (aI z)) ?_, ?_⟩
            · unfold arF; first | (rw [decide_eq_true (by omega)]; rfl) | (rw [decide_eq_false (by omega)]; rfl)
            · first | rfl | assumption
          · refine rr_iload3 (pc := 78) B dX9_areFalse_78 ?_
            refine rr_iconst (z := (-1)) (pc := 79) B dX9_areFalse_79 ?_
            refine rr_icmp_ne 92 (pc := 80) B dX9_areFalse_80 (by decide) (by omega) (fun b12 => ?_) (fun b12 => ?_)
            · refine rr_iconst (z := 0) (pc := 92) B dX9_areFalse_92 ?_
              refine rr_zreturn (pc := 93) B Br dX9_areFalse_93 (by omega) ⟨congrArg (fun z => some (aI z)) ?_, ?_⟩
              · unfold arF; first | (rw [decide_eq_true (by omega)]; rfl) | (rw [decide_eq_false (by omega)]; rfl)
              · first | rfl | assumption
            · refine rr_iload5 (pc := 83) B dX9_areFalse_83 ?_
              refine rr_if_eq 92 (pc := 85) B dX9_areFalse_85 (by decide) (by omega) (fun b13 => ?_) (fun b13 => absurd b13 (by omega))
              refine rr_iconst (z := 0) (pc := 92) B dX9_areFalse_92 ?_
              refine rr_zreturn (pc := 93) B Br dX9_areFalse_93 (by omega) ⟨congrArg (fun z => some (aI z)) ?_, ?_⟩
              · unfold arF; first | (rw [decide_eq_true (by omega)]; rfl) | (rw [decide_eq_false (by omega)]; rfl)
              · first | rfl | assumption
        · refine rr_iload4 (pc := 68) B dX9_areFalse_68 ?_
          refine rr_if_ne 88 (pc := 70) B dX9_areFalse_70 (by decide) (by omega) (fun b11 => ?_) (fun b11 => ?_)
          · refine rr_iconst (z := 1) (pc := 88) B dX9_areFalse_88 ?_
            refine rr_goto 93 (pc := 89) B dX9_areFalse_89 (by decide) ?_
            refine rr_zreturn (pc := 93) B Br dX9_areFalse_93 (by omega) ⟨congrArg (fun z => some (aI z)) ?_, ?_⟩
            · unfold arF; first | (rw [decide_eq_true (by omega)]; rfl) | (rw [decide_eq_false (by omega)]; rfl)
            · first | rfl | assumption
          · refine rr_iload3 (pc := 73) B dX9_areFalse_73 ?_
            refine rr_iconst (z := 1) (pc := 74) B dX9_areFalse_74 ?_
            refine rr_icmp_eq 83 (pc := 75) B dX9_areFalse_75 (by decide) (by omega) (fun b12 => ?_) (fun b12 => ?_)
            · refine rr_iload5 (pc := 83) B dX9_areFalse_83 ?_
              refine rr_if_eq 92 (pc := 85) B dX9_areFalse_85 (by decide) (by omega) (fun b13 => ?_) (fun b13 => absurd b13 (by omega))
              refine rr_iconst (z := 0) (pc := 92) B dX9_areFalse_92 ?_
              refine rr_zreturn (pc := 93) B Br dX9_areFalse_93 (by omega) ⟨congrArg (fun z => some (aI z)) ?_, ?_⟩
              · unfold arF; first | (rw [decide_eq_true (by omega)]; rfl) | (rw [decide_eq_false (by omega)]; rfl)
              · first | rfl | assumption
            · refine rr_iload3 (pc := 78) B dX9_areFalse_78 ?_
              refine rr_iconst (z := (-1)) (pc := 79) B dX9_areFalse_79 ?_
              refine rr_icmp_ne 92 (pc := 80) B dX9_areFalse_80 (by decide) (by omega) (fun b13 => ?_) (fun b13 => ?_)
              · refine rr_iconst (z := 0) (pc := 92) B dX9_areFalse_92 ?_
                refine rr_zreturn (pc := 93) B Br dX9_areFalse_93 (by omega) ⟨congrArg (fun z => some (aI z)) ?_, ?_⟩
                · unfold arF; first | (rw [decide_eq_true (by omega)]; rfl) | (rw [decide_eq_false (by omega)]; rfl)
                · first | rfl | assumption
              · refine rr_iload5 (pc := 83) B dX9_areFalse_83 ?_
                refine rr_if_eq 92 (pc := 85) B dX9_areFalse_85 (by decide) (by omega) (fun b14 => ?_) (fun b14 => absurd b14 (by omega))
                refine rr_iconst (z := 0) (pc := 92) B dX9_areFalse_92 ?_
                refine rr_zreturn (pc := 93) B Br dX9_areFalse_93 (by omega) ⟨congrArg (fun z => some (aI z)) ?_, ?_⟩
                · unfold arF; first | (rw [decide_eq_true (by omega)]; rfl) | (rw [decide_eq_false (by omega)]; rfl)
                · first | rfl | assumption
    · refine rr_iconst (z := 1) (pc := 42) B dX9_areFalse_42 ?_
      refine rr_goto 47 (pc := 43) B dX9_areFalse_43 (by decide) ?_
      refine rr_istore5 (pc := 47) B dX9_areFalse_47 rfl ?_
      refine rr_aload0 (pc := 49) B dX9_areFalse_49 ?_
      refine rr_getR (pc := 50) B dX9_areFalse_50 fl_9_70 or_9_27 ?_
      refine rr_iload1 (pc := 53) B dX9_areFalse_53 ?_
      refine rr_ialoadE (pc := 54) B dX9_areFalse_54 sa_65 (by omega) (HV 65 _ trivial) (fun b7 => ?_)
      refine rr_aload0 (pc := 55) B dX9_areFalse_55 ?_
      refine rr_getR (pc := 56) B dX9_areFalse_56 fl_9_70 or_9_27 ?_
      refine rr_iload2 (pc := 59) B dX9_areFalse_59 ?_
      refine rr_ialoadE (pc := 60) B dX9_areFalse_60 sa_65 (by omega) (HV 65 _ trivial) (fun b8 => ?_)
      refine rr_icmp_ne 92 (pc := 61) B dX9_areFalse_61 (by decide) (by omega) (fun b9 => ?_) (fun b9 => ?_)
      · refine rr_iconst (z := 0) (pc := 92) B dX9_areFalse_92 ?_
        refine rr_zreturn (pc := 93) B Br dX9_areFalse_93 (by omega) ⟨congrArg (fun z => some (aI z)) ?_, ?_⟩
        · unfold arF; first | (rw [decide_eq_true (by omega)]; rfl) | (rw [decide_eq_false (by omega)]; rfl)
        · first | rfl | assumption
      · refine rr_iload3 (pc := 64) B dX9_areFalse_64 ?_
        refine rr_if_ne 73 (pc := 65) B dX9_areFalse_65 (by decide) (by omega) (fun b10 => ?_) (fun b10 => ?_)
        · refine rr_iload3 (pc := 73) B dX9_areFalse_73 ?_
          refine rr_iconst (z := 1) (pc := 74) B dX9_areFalse_74 ?_
          refine rr_icmp_eq 83 (pc := 75) B dX9_areFalse_75 (by decide) (by omega) (fun b11 => ?_) (fun b11 => ?_)
          · refine rr_iload5 (pc := 83) B dX9_areFalse_83 ?_
            refine rr_if_eq 92 (pc := 85) B dX9_areFalse_85 (by decide) (by omega) (fun b12 => absurd b12 (by omega)) (fun b12 => ?_)
            refine rr_iconst (z := 1) (pc := 88) B dX9_areFalse_88 ?_
            refine rr_goto 93 (pc := 89) B dX9_areFalse_89 (by decide) ?_
            refine rr_zreturn (pc := 93) B Br dX9_areFalse_93 (by omega) ⟨congrArg (fun z => some (aI z)) ?_, ?_⟩
            · unfold arF; first | (rw [decide_eq_true (by omega)]; rfl) | (rw [decide_eq_false (by omega)]; rfl)
            · first | rfl | assumption
          · refine rr_iload3 (pc := 78) B dX9_areFalse_78 ?_
            refine rr_iconst (z := (-1)) (pc := 79) B dX9_areFalse_79 ?_
            refine rr_icmp_ne 92 (pc := 80) B dX9_areFalse_80 (by decide) (by omega) (fun b12 => ?_) (fun b12 => ?_)
            · refine rr_iconst (z := 0) (pc := 92) B dX9_areFalse_92 ?_
              refine rr_zreturn (pc := 93) B Br dX9_areFalse_93 (by omega) ⟨congrArg (fun z => some (aI z)) ?_, ?_⟩
              · unfold arF; first | (rw [decide_eq_true (by omega)]; rfl) | (rw [decide_eq_false (by omega)]; rfl)
              · first | rfl | assumption
            · refine rr_iload5 (pc := 83) B dX9_areFalse_83 ?_
              refine rr_if_eq 92 (pc := 85) B dX9_areFalse_85 (by decide) (by omega) (fun b13 => absurd b13 (by omega)) (fun b13 => ?_)
              refine rr_iconst (z := 1) (pc := 88) B dX9_areFalse_88 ?_
              refine rr_goto 93 (pc := 89) B dX9_areFalse_89 (by decide) ?_
              refine rr_zreturn (pc := 93) B Br dX9_areFalse_93 (by omega) ⟨congrArg (fun z => some (aI z)) ?_, ?_⟩
              · unfold arF; first | (rw [decide_eq_true (by omega)]; rfl) | (rw [decide_eq_false (by omega)]; rfl)
              · first | rfl | assumption
        · refine rr_iload4 (pc := 68) B dX9_areFalse_68 ?_
          refine rr_if_ne 88 (pc := 70) B dX9_areFalse_70 (by decide) (by omega) (fun b11 => ?_) (fun b11 => ?_)
          · refine rr_iconst (z := 1) (pc := 88) B dX9_areFalse_88 ?_
            refine rr_goto 93 (pc := 89) B dX9_areFalse_89 (by decide) ?_
            refine rr_zreturn (pc := 93) B Br dX9_areFalse_93 (by omega) ⟨congrArg (fun z => some (aI z)) ?_, ?_⟩
            · unfold arF; first | (rw [decide_eq_true (by omega)]; rfl) | (rw [decide_eq_false (by omega)]; rfl)
            · first | rfl | assumption
          · refine rr_iload3 (pc := 73) B dX9_areFalse_73 ?_
            refine rr_iconst (z := 1) (pc := 74) B dX9_areFalse_74 ?_
            refine rr_icmp_eq 83 (pc := 75) B dX9_areFalse_75 (by decide) (by omega) (fun b12 => ?_) (fun b12 => ?_)
            · refine rr_iload5 (pc := 83) B dX9_areFalse_83 ?_
              refine rr_if_eq 92 (pc := 85) B dX9_areFalse_85 (by decide) (by omega) (fun b13 => absurd b13 (by omega)) (fun b13 => ?_)
              refine rr_iconst (z := 1) (pc := 88) B dX9_areFalse_88 ?_
              refine rr_goto 93 (pc := 89) B dX9_areFalse_89 (by decide) ?_
              refine rr_zreturn (pc := 93) B Br dX9_areFalse_93 (by omega) ⟨congrArg (fun z => some (aI z)) ?_, ?_⟩
              · unfold arF; first | (rw [decide_eq_true (by omega)]; rfl) | (rw [decide_eq_false (by omega)]; rfl)
              · first | rfl | assumption
            · refine rr_iload3 (pc := 78) B dX9_areFalse_78 ?_
              refine rr_iconst (z := (-1)) (pc := 79) B dX9_areFalse_79 ?_
              refine rr_icmp_ne 92 (pc := 80) B dX9_areFalse_80 (by decide) (by omega) (fun b13 => ?_) (fun b13 => ?_)
              · refine rr_iconst (z := 0) (pc := 92) B dX9_areFalse_92 ?_
                refine rr_zreturn (pc := 93) B Br dX9_areFalse_93 (by omega) ⟨congrArg (fun z => some (aI z)) ?_, ?_⟩
                · unfold arF; first | (rw [decide_eq_true (by omega)]; rfl) | (rw [decide_eq_false (by omega)]; rfl)
                · first | rfl | assumption
              · refine rr_iload5 (pc := 83) B dX9_areFalse_83 ?_
                refine rr_if_eq 92 (pc := 85) B dX9_areFalse_85 (by decide) (by omega) (fun b14 => absurd b14 (by omega)) (fun b14 => ?_)
                refine rr_iconst (z := 1) (pc := 88) B dX9_areFalse_88 ?_
                refine rr_goto 93 (pc := 89) B dX9_areFalse_89 (by decide) ?_
                refine rr_zreturn (pc := 93) B Br dX9_areFalse_93 (by omega) ⟨congrArg (fun z => some (aI z)) ?_, ?_⟩
                · unfold arF; first | (rw [decide_eq_true (by omega)]; rfl) | (rw [decide_eq_false (by omega)]; rfl)
                · first | rfl | assumption
set_option maxHeartbeats 4000000 in
set_option maxRecDepth 100000 in
theorem ct_X9_isSight (g : ax_G) (M : ax_M) (k : Int) (V : ax_M) (H0 : AgM V M) (H1 : -2147483648 ≤ k ∧ k ≤ 2147483647) : CT g md_X9_isSight 1 [aR 9, aI k] M (pI (bi (decide (0 ≤ k ∧ k ≤ V 9 26 - 1))) (M)) := by
  refine ct_intro 0 rfl rfl ?_
  intro X hg B Br
  subst hg
  show AW X 0 [some (aR 9), some (aI k)] [] M
  refine rr_rg (fun G0 => ?_)
  have HV := H0
  refine rr_iload1 (pc := 0) B dX9_isSight_0 ?_
  refine rr_iconst (z := 0) (pc := 1) B dX9_isSight_1 ?_
  refine rr_aload0 (pc := 2) B dX9_isSight_2 ?_
  refine rr_getIE (pc := 3) B dX9_isSight_3 fl_9_243 ob_9_26 (HV 9 _ (by simp [relM])) (fun b1 => ?_)
  refine rr_iconst (z := 1) (pc := 6) B dX9_isSight_6 ?_
  refine rr_isub (pc := 7) B dX9_isSight_7 ?_
  refine rc_SI3 (pc := 8) B dX9_isSight_8 st_X9_in lk_9_103 (ct_X9_in _ _ _ _ _  (by omega)) (Nat.le_of_ble_eq_true rfl) (Nat.le_of_ble_eq_true rfl) ?_
  refine rr_zreturn (pc := 11) B Br dX9_isSight_11 (bi_01 _) ⟨congrArg (fun z => some (aI z)) ?_, ?_⟩
  · first | rfl | omega | (rw [decide_eq_true (by omega)]; rfl) | (rw [decide_eq_false (by omega)]; rfl) | (simp [*]; done)
  · first | rfl | assumption
set_option maxHeartbeats 4000000 in
set_option maxRecDepth 100000 in
theorem ct_X9_sparedOf (g : ax_G) (M : ax_M) (set : Int) (V : ax_M) (H0 : AgM V M) (H1 : 0 ≤ set ∧ set < 256) : CT g md_X9_sparedOf 2 [aR 9, aI set] M (pI (spV V set) (M)) := by
  refine ct_intro 3 rfl rfl ?_
  intro X hg B Br
  subst hg
  show AW X 0 [some (aR 9), some (aI set), none, none, none] [] M
  refine rr_rg (fun G0 => ?_)
  have HV := H0
  have D8 : V 9 2 ≤ 8 := by have := G0.at ob_9_2.2.1; rw [HV 9 2 (Or.inl rfl)] at this; omega
  have D0 : 0 ≤ V 9 2 := by have := G0.at ob_9_2.2.1; rw [HV 9 2 (Or.inl rfl)] at this; omega
  have L : ∀ nn : Nat, (∀ (r t : Int) (w4 : Option ax_V), (0 ≤ t ∧ t ≤ 8) → (r = itI (fun _ r => itI (rcS V) r (V 9 30)) set t) → (0 ≤ r ∧ r < 256) → ((20 * (8 - t) + 19).toNat) < nn → AW X 4 [some (aR 9), some (aI set), some (aI r), some (aI t), w4] [] M) ∧ (∀ (r t k : Int), (0 ≤ t ∧ t < 8) → (0 ≤ k ∧ k ≤ V 9 30) → (0 ≤ r ∧ r < 256) → (r = itI (rcS V) (itI (fun _ r => itI (rcS V) r (V 9 30)) set t) k) → ((20 * (8 - t) + 10 - k).toNat) < nn → AW X 13 [some (aR 9), some (aI set), some (aI r), some (aI t), some (aI k)] [] M) ∧ True := by
    intro nn
    induction nn with
    | zero => exact ⟨by intros; omega, by intros; omega, trivial⟩
    | succ nn ih =>
      refine ⟨?_, ?_, trivial⟩
      · intro r t w4 K0 K1 K2 hm
        refine rr_iload3 (pc := 4) B dX9_sparedOf_4 ?_
        refine rr_bipush (z := 8) (pc := 5) B dX9_sparedOf_5 (by decide) ?_
        refine rr_icmp_ge 92 (pc := 7) B dX9_sparedOf_7 (by decide) (by omega) (fun b1 => ?_) (fun b1 => ?_)
        · refine rr_aload0 (pc := 92) B dX9_sparedOf_92 ?_
          refine rr_iload2 (pc := 93) B dX9_sparedOf_93 ?_
          refine rr_iload1 (pc := 94) B dX9_sparedOf_94 ?_
          refine rr_iconst (z := (-1)) (pc := 95) B dX9_sparedOf_95 ?_
          refine rr_inot (pc := 96) B dX9_sparedOf_96 ?_
          refine rr_andD (pc := 97) B dX9_sparedOf_97 (by omega) (fun b2 => ?_)
          refine rc_VI1 (pc := 98) B dX9_sparedOf_98 vm_X9_worthBy lk_9_195 so_9 rfl (ct_X9_worthBy _ _ _ _ (by omega) (by omega)) (Nat.le_of_ble_eq_true rfl) (Nat.le_of_ble_eq_true rfl) ?_
          refine rr_ireturn (pc := 101) B Br dX9_sparedOf_101 ⟨congrArg (fun z => some (aI z)) ?_, ?_⟩
          · unfold spV rch; rw [K1, show t = 8 by omega]
          · first | rfl | assumption
        · refine rr_iconst (z := 0) (pc := 10) B dX9_sparedOf_10 ?_
          refine rr_istore4 (pc := 11) B dX9_sparedOf_11 rfl ?_
          refine ih.2.1 _ _ _ ?_ ?_ ?_ ?_ ?_
          · omega
          · have := G0.at ob_9_30.2.1; rw [HV 9 30 (by simp [relM])] at this; omega
          · omega
          · exact K1
          · omega
      · intro r t k K0 K1 K2 K3 hm
        refine rr_iload4 (pc := 13) B dX9_sparedOf_13 ?_
        refine rr_aload0 (pc := 15) B dX9_sparedOf_15 ?_
        refine rr_getIE (pc := 16) B dX9_sparedOf_16 fl_9_255 ob_9_30 (HV 9 _ (by simp [relM])) (fun b1 => ?_)
        refine rr_icmp_ge 86 (pc := 19) B dX9_sparedOf_19 (by decide) (by omega) (fun b2 => ?_) (fun b2 => ?_)
        · refine rr_iinc3 (z := 1) (pc := 86) B dX9_sparedOf_86 rfl ?_
          refine rr_goto 4 (pc := 89) B dX9_sparedOf_89 (by decide) ?_
          refine ih.1 _ _ _ ?_ ?_ ?_ ?_
          · omega
          · rw [itI_s _ _ (by omega), K3, show k = V 9 30 by omega]
          · omega
          · omega
        · refine rr_iload2 (pc := 22) B dX9_sparedOf_22 ?_
          refine rr_aload0 (pc := 23) B dX9_sparedOf_23 ?_
          refine rr_getR (pc := 24) B dX9_sparedOf_24 fl_9_79 or_9_31 ?_
          refine rr_iload4 (pc := 27) B dX9_sparedOf_27 ?_
          refine rr_ialoadE (pc := 29) B dX9_sparedOf_29 sa_68 (by omega) (HV 68 _ trivial) (fun b3 => ?_)
          refine rr_aload0 (pc := 30) B dX9_sparedOf_30 ?_
          refine rr_getIE (pc := 31) B dX9_sparedOf_31 fl_9_107 ob_9_2 (HV 9 _ (Or.inl rfl)) (fun b4 => ?_)
          refine rr_icmp_ge 77 (pc := 34) B dX9_sparedOf_34 (by decide) (by omega) (fun b5 => ?_) (fun b5 => ?_)
          · refine rr_iconst (z := 0) (pc := 77) B dX9_sparedOf_77 ?_
            refine rr_orN 8 (pc := 78) B dX9_sparedOf_78 (by decide) (by first | omega | (have q2 := p2_le (a := V 69 k) (b := 7) (by omega); have q3 : p2 7 = 128 := rfl; omega)) (fun b6 => ?_)
            refine rr_istore2 (pc := 79) B dX9_sparedOf_79 rfl ?_
            refine rr_iinc4 (z := 1) (pc := 80) B dX9_sparedOf_80 rfl ?_
            refine rr_goto 13 (pc := 83) B dX9_sparedOf_83 (by decide) ?_
            refine ih.2.1 _ _ _ ?_ ?_ ?_ ?_ ?_
            · omega
            · omega
            · first | omega | (simp only [show ((2 ^ 8 : Nat) : Int) = 256 from rfl] at *; omega)
            · rw [itI_s _ _ (by omega), ← K3]; unfold rcS; first | (rw [if_pos ⟨by omega, by omega, by assumption⟩]; done) | (rw [if_neg (by rintro ⟨q1, q2, q3⟩; first | omega | (simp_all; done))]; done)
            · omega
          · refine rr_aload0 (pc := 37) B dX9_sparedOf_37 ?_
            refine rr_getR (pc := 38) B dX9_sparedOf_38 fl_9_82 or_9_32 ?_
            refine rr_iload4 (pc := 41) B dX9_sparedOf_41 ?_
            refine rr_ialoadE (pc := 43) B dX9_sparedOf_43 sa_69 (by omega) (HV 69 _ trivial) (fun b6 => ?_)
            refine rr_aload0 (pc := 44) B dX9_sparedOf_44 ?_
            refine rr_getIE (pc := 45) B dX9_sparedOf_45 fl_9_107 ob_9_2 (HV 9 _ (Or.inl rfl)) (fun b7 => ?_)
            refine rr_icmp_ge 77 (pc := 48) B dX9_sparedOf_48 (by decide) (by omega) (fun b8 => ?_) (fun b8 => ?_)
            · refine rr_iconst (z := 0) (pc := 77) B dX9_sparedOf_77 ?_
              refine rr_orN 8 (pc := 78) B dX9_sparedOf_78 (by decide) (by first | omega | (have q2 := p2_le (a := V 69 k) (b := 7) (by omega); have q3 : p2 7 = 128 := rfl; omega)) (fun b9 => ?_)
              refine rr_istore2 (pc := 79) B dX9_sparedOf_79 rfl ?_
              refine rr_iinc4 (z := 1) (pc := 80) B dX9_sparedOf_80 rfl ?_
              refine rr_goto 13 (pc := 83) B dX9_sparedOf_83 (by decide) ?_
              refine ih.2.1 _ _ _ ?_ ?_ ?_ ?_ ?_
              · omega
              · omega
              · first | omega | (simp only [show ((2 ^ 8 : Nat) : Int) = 256 from rfl] at *; omega)
              · rw [itI_s _ _ (by omega), ← K3]; unfold rcS; first | (rw [if_pos ⟨by omega, by omega, by assumption⟩]; done) | (rw [if_neg (by rintro ⟨q1, q2, q3⟩; first | omega | (simp_all; done))]; done)
              · omega
            · refine rr_iload2 (pc := 51) B dX9_sparedOf_51 ?_
              refine rr_aload0 (pc := 52) B dX9_sparedOf_52 ?_
              refine rr_getR (pc := 53) B dX9_sparedOf_53 fl_9_79 or_9_31 ?_
              refine rr_iload4 (pc := 56) B dX9_sparedOf_56 ?_
              refine rr_ialoadE (pc := 58) B dX9_sparedOf_58 sa_68 (by omega) (HV 68 _ trivial) (fun b9 => ?_)
              refine rc_SI2 (pc := 59) B dX9_sparedOf_59 st_X9_isIn lk_9_119 (ct_X9_isIn _ _ _ _  (by omega) (by omega)) (Nat.le_of_ble_eq_true rfl) (Nat.le_of_ble_eq_true rfl) ?_
              refine rr_if_eqB 77 (pc := 62) B dX9_sparedOf_62 (by decide) (fun b10 => ?_) (fun b10 => ?_)
              · refine rr_iconst (z := 0) (pc := 77) B dX9_sparedOf_77 ?_
                refine rr_orN 8 (pc := 78) B dX9_sparedOf_78 (by decide) (by first | omega | (have q2 := p2_le (a := V 69 k) (b := 7) (by omega); have q3 : p2 7 = 128 := rfl; omega)) (fun b11 => ?_)
                refine rr_istore2 (pc := 79) B dX9_sparedOf_79 rfl ?_
                refine rr_iinc4 (z := 1) (pc := 80) B dX9_sparedOf_80 rfl ?_
                refine rr_goto 13 (pc := 83) B dX9_sparedOf_83 (by decide) ?_
                refine ih.2.1 _ _ _ ?_ ?_ ?_ ?_ ?_
                · omega
                · omega
                · first | omega | (simp only [show ((2 ^ 8 : Nat) : Int) = 256 from rfl] at *; omega)
                · rw [itI_s _ _ (by omega), ← K3]; unfold rcS; first | (rw [if_pos ⟨by omega, by omega, by assumption⟩]; done) | (rw [if_neg (by rintro ⟨q1, q2, q3⟩; first | omega | (simp_all; done))]; done)
                · omega
              · refine rr_iconst (z := 1) (pc := 65) B dX9_sparedOf_65 ?_
                refine rr_aload0 (pc := 66) B dX9_sparedOf_66 ?_
                refine rr_getR (pc := 67) B dX9_sparedOf_67 fl_9_82 or_9_32 ?_
                refine rr_iload4 (pc := 70) B dX9_sparedOf_70 ?_
                refine rr_ialoadE (pc := 72) B dX9_sparedOf_72 sa_69 (by omega) (HV 69 _ trivial) (fun b11 => ?_)
                refine rr_shl1 (pc := 73) B dX9_sparedOf_73 (by omega) (fun b12 => ?_)
                refine rr_goto 78 (pc := 74) B dX9_sparedOf_74 (by decide) ?_
                refine rr_orN 8 (pc := 78) B dX9_sparedOf_78 (by decide) (by first | omega | (have q2 := p2_le (a := V 69 k) (b := 7) (by omega); have q3 : p2 7 = 128 := rfl; omega)) (fun b13 => ?_)
                refine rr_istore2 (pc := 79) B dX9_sparedOf_79 rfl ?_
                refine rr_iinc4 (z := 1) (pc := 80) B dX9_sparedOf_80 rfl ?_
                refine rr_goto 13 (pc := 83) B dX9_sparedOf_83 (by decide) ?_
                refine ih.2.1 _ _ _ ?_ ?_ ?_ ?_ ?_
                · omega
                · omega
                · first | omega | (simp only [show ((2 ^ 8 : Nat) : Int) = 256 from rfl] at *; omega)
                · rw [itI_s _ _ (by omega), ← K3]; unfold rcS; first | (rw [if_pos ⟨by omega, by omega, by assumption⟩]; done) | (rw [if_neg (by rintro ⟨q1, q2, q3⟩; first | omega | (simp_all; done))]; done)
                · omega
  refine rr_iload1 (pc := 0) B dX9_sparedOf_0 ?_
  refine rr_istore2 (pc := 1) B dX9_sparedOf_1 rfl ?_
  refine rr_iconst (z := 0) (pc := 2) B dX9_sparedOf_2 ?_
  refine rr_istore3 (pc := 3) B dX9_sparedOf_3 rfl ?_
  refine (L _).1 _ _ _ ?_ ?_ ?_ (Nat.lt_succ_self _)
  · omega
  · rfl
  · omega
set_option maxHeartbeats 8000000 in
set_option maxRecDepth 100000 in
theorem ct_X9_costTogether (g : ax_G) (M : ax_M) (set h : Int) (V : ax_M) (H0 : AgM V M) (H1 : 0 ≤ set ∧ set < 256) (H2 : 0 ≤ h ∧ h ≤ 7) : CT g md_X9_costTogether 3 [aR 9, aI set, aI h] M (pI (cT V set h) (M)) := by
  refine ct_intro 8 rfl rfl ?_
  intro X hg B Br
  subst hg
  show AW X 0 [some (aR 9), some (aI set), some (aI h), none, none, none, none, none, none, none, none] [] M
  refine rr_rg (fun G0 => ?_)
  have HV := H0
  have D8 : V 9 2 ≤ 8 := by have := G0.at ob_9_2.2.1; rw [HV 9 2 (Or.inl rfl)] at this; omega
  have D0 : 0 ≤ V 9 2 := by have := G0.at ob_9_2.2.1; rw [HV 9 2 (Or.inl rfl)] at this; omega
  have P99 : ∀ p, 0 ≤ p → p < 8 → 0 ≤ V 57 p ∧ V 57 p ≤ 99 := fun p q1 q2 => by have := G0.at (sa_57.2.2 p); rw [HV 57 p trivial] at this; exact this
  have R99 : 0 ≤ V 60 0 ∧ V 60 0 ≤ 999 := by have := G0.at (sa_60.2.2 0); rw [HV 60 0 trivial] at this; exact this
  have L : ∀ nn : Nat, (∀ (who s1 t1 d : Int) (w7 w8 w9 w10 : Option ax_V), (0 ≤ d ∧ d ≤ V 9 2) → (whoC V set h d who) → (0 ≤ who ∧ who < 256) → (s1 = sT V set h d) → (t1 = bi (tT V set h d)) → (∀ j, 0 ≤ j → j < d → okD V set h j = true) → ((100 * (8 - d) + 99).toNat) < nn → AW X 11 [some (aR 9), some (aI set), some (aI h), some (aI who), some (aI s1), some (aI t1), some (aI d), w7, w8, w9, w10] [] M) ∧ (∀ (who s1 t1 d : Int) (t0 : Option ax_V) (w8 w9 w10 : Option ax_V), (0 ≤ d ∧ d < V 9 2) → (whoC V set h (d + 1) who) → (0 ≤ who ∧ who < 256) → (s1 = sT V set h (d + 1)) → (t1 = bi (tT V set h (d + 1))) → (∀ j, 0 ≤ j → j < d → okD V set h j = true) → (tb set d = true) → (cm V d h ≠ -3) → (∀ j, 0 ≤ j → j < d → tb set j = true → nA (cm V d h) (cm V j h) = 0) → ((100 * (8 - d) + 80).toNat) < nn → AW X 91 [some (aR 9), some (aI set), some (aI h), some (aI who), some (aI s1), t0, some (aI d), some (aI (cm V d h)), w8, w9, w10] [aI t1] M) ∧ (∀ (who s1 t1 d e : Int) (w9 w10 : Option ax_V), (0 ≤ d ∧ d < V 9 2) → (whoC V set h (d + 1) who) → (0 ≤ who ∧ who < 256) → (s1 = sT V set h (d + 1)) → (t1 = bi (tT V set h (d + 1))) → (∀ j, 0 ≤ j → j < d → okD V set h j = true) → (tb set d = true) → (cm V d h ≠ -3) → (∀ j, 0 ≤ j → j < d → tb set j = true → nA (cm V d h) (cm V j h) = 0) → (0 ≤ e ∧ e ≤ d) → (∀ j, 0 ≤ j → j < e → tb set j = true → apP V d j = false ∧ apR V d j = false) → ((100 * (8 - d) + 60 - 3 * e).toNat) < nn → AW X 96 [some (aR 9), some (aI set), some (aI h), some (aI who), some (aI s1), some (aI t1), some (aI d), some (aI (cm V d h)), some (aI e), w9, w10] [] M) ∧ (∀ (who s1 t1 d e pl : Int) (w9 w10 : Option ax_V), (0 ≤ d ∧ d < V 9 2) → (whoC V set h (d + 1) who) → (0 ≤ who ∧ who < 256) → (s1 = sT V set h (d + 1)) → (t1 = bi (tT V set h (d + 1))) → (∀ j, 0 ≤ j → j < d → okD V set h j = true) → (tb set d = true) → (cm V d h ≠ -3) → (∀ j, 0 ≤ j → j < d → tb set j = true → nA (cm V d h) (cm V j h) = 0) → (0 ≤ e ∧ e ≤ d) → (∀ j, 0 ≤ j → j < e → tb set j = true → apP V d j = false ∧ apR V d j = false) → (pl = bi (tb set e && apP V d e)) → (e < d) → ((100 * (8 - d) + 59 - 3 * e).toNat) < nn → AW X 166 [some (aR 9), some (aI set), some (aI h), some (aI who), some (aI s1), some (aI t1), some (aI d), some (aI (cm V d h)), some (aI e), w9, w10] [aI pl] M) ∧ (∀ (who s1 t1 d e pl rn : Int) (w10 : Option ax_V), (0 ≤ d ∧ d < V 9 2) → (whoC V set h (d + 1) who) → (0 ≤ who ∧ who < 256) → (s1 = sT V set h (d + 1)) → (t1 = bi (tT V set h (d + 1))) → (∀ j, 0 ≤ j → j < d → okD V set h j = true) → (tb set d = true) → (cm V d h ≠ -3) → (∀ j, 0 ≤ j → j < d → tb set j = true → nA (cm V d h) (cm V j h) = 0) → (0 ≤ e ∧ e ≤ d) → (∀ j, 0 ≤ j → j < e → tb set j = true → apP V d j = false ∧ apR V d j = false) → (pl = bi (tb set e && apP V d e)) → (rn = bi (tb set e && apR V d e)) → (e < d) → ((100 * (8 - d) + 58 - 3 * e).toNat) < nn → AW X 231 [some (aR 9), some (aI set), some (aI h), some (aI who), some (aI s1), some (aI t1), some (aI d), some (aI (cm V d h)), some (aI e), some (aI pl), w10] [aI rn] M) ∧ True := by
    intro nn
    induction nn with
    | zero => exact ⟨by intros; omega, by intros; omega, by intros; omega, by intros; omega, by intros; omega, trivial⟩
    | succ nn ih =>
      refine ⟨?_, ?_, ?_, ?_, ?_, trivial⟩
      · intro who s1 t1 d w7 w8 w9 w10 K0 K1 K2 K3 K4 K5 hm
        refine rr_iload6 (pc := 11) B dX9_costTogether_11 ?_
        refine rr_aload0 (pc := 13) B dX9_costTogether_13 ?_
        refine rr_getIE (pc := 14) B dX9_costTogether_14 fl_9_107 ob_9_2 (HV 9 _ (Or.inl rfl)) (fun b1 => ?_)
        refine rr_icmp_ge 258 (pc := 17) B dX9_costTogether_17 (by decide) (by omega) (fun b2 => ?_) (fun b2 => ?_)
        · refine rr_iload4 (pc := 258) B dX9_costTogether_258 ?_
          refine rr_iload5 (pc := 260) B dX9_costTogether_260 ?_
          refine rr_if_eq 274 (pc := 262) B dX9_costTogether_262 (by decide) (by have := bi_r (tT V set h d); omega) (fun b3 => ?_) (fun b3 => ?_)
          · refine rr_iconst (z := 0) (pc := 274) B dX9_costTogether_274 ?_
            refine rr_iadd (pc := 275) B dX9_costTogether_275 ?_
            refine rr_ireturn (pc := 276) B Br dX9_costTogether_276 ⟨congrArg (fun z => some (aI z)) ?_, ?_⟩
            · obtain rfl : d = V 9 2 := by omega
              unfold cT
              have ok : okT V set h = true := allB_t (by omega) K5
              rw [if_pos ok, ← K3]; cases q3 : tT V set h (V 9 2) <;> simp_all [bi]
            · first | rfl | assumption
          · refine rr_aload0 (pc := 265) B dX9_costTogether_265 ?_
            refine rr_getR (pc := 266) B dX9_costTogether_266 fl_9_55 or_9_17 ?_
            refine rr_iconst (z := 0) (pc := 269) B dX9_costTogether_269 ?_
            refine rr_ialoadE (pc := 270) B dX9_costTogether_270 sa_60 (by omega) (HV 60 _ trivial) (fun b4 => ?_)
            refine rr_goto 275 (pc := 271) B dX9_costTogether_271 (by decide) ?_
            refine rr_iadd (pc := 275) B dX9_costTogether_275 ?_
            refine rr_ireturn (pc := 276) B Br dX9_costTogether_276 ⟨congrArg (fun z => some (aI z)) ?_, ?_⟩
            · obtain rfl : d = V 9 2 := by omega
              unfold cT
              have ok : okT V set h = true := allB_t (by omega) K5
              rw [if_pos ok, ← K3]; cases q3 : tT V set h (V 9 2) <;> simp_all [bi]
            · first | rfl | assumption
        · refine rr_iload1 (pc := 20) B dX9_costTogether_20 ?_
          refine rr_iload6 (pc := 21) B dX9_costTogether_21 ?_
          refine rc_SI2 (pc := 23) B dX9_costTogether_23 st_X9_isIn lk_9_119 (ct_X9_isIn _ _ _ _  (by omega) (by omega)) (Nat.le_of_ble_eq_true rfl) (Nat.le_of_ble_eq_true rfl) ?_
          refine rr_if_eqB 252 (pc := 26) B dX9_costTogether_26 (by decide) (fun b3 => ?_) (fun b3 => ?_)
          · refine rr_iinc6 (z := 1) (pc := 252) B dX9_costTogether_252 rfl ?_
            refine rr_goto 11 (pc := 255) B dX9_costTogether_255 (by decide) ?_
            refine ih.1 _ _ _ _ _ _ _ _ ?_ ?_ ?_ ?_ ?_ ?_ ?_
            · omega
            · first | assumption | exact whoC_n K1 (by assumption)
            · assumption
            · first | assumption | (unfold sT; rw [itI_s _ _ (by omega)]; unfold sT at K3; rw [← K3, if_neg (by simp_all)]; omega)
            · first | assumption | (rw [tT_s _ _ _ (by omega), show tb set d = false by assumption, Bool.false_and, Bool.or_false]; assumption)
            · intro j h0 h1
              rcases Int.lt_or_eq_of_le (show j ≤ d by omega) with q | q
              · exact K5 j h0 q
              · rw [q]
                first | exact okD_n (by assumption) | exact okD_t K0.1 K7 (fun j h0 h1 h2 => by unfold apr; rw [K8 j h0 h1 h2, (K10 j h0 (by omega) h2).1, (K10 j h0 (by omega) h2).2]; rfl)
            · omega
          · refine rr_aload0 (pc := 29) B dX9_costTogether_29 ?_
            refine rr_iload6 (pc := 30) B dX9_costTogether_30 ?_
            refine rr_iload2 (pc := 32) B dX9_costTogether_32 ?_
            refine rc_VI2 (pc := 33) B dX9_costTogether_33 vm_X9_comesOf lk_9_173 so_9 rfl (ct_X9_comesOf _ _ _ _ _ (by omega) (by omega) (by omega)) (Nat.le_of_ble_eq_true rfl) (Nat.le_of_ble_eq_true rfl) ?_
            refine rr_istore7 (pc := 36) B dX9_costTogether_36 rfl ?_
            refine rr_iload7 (pc := 38) B dX9_costTogether_38 ?_
            refine rr_bipush (z := (-3)) (pc := 40) B dX9_costTogether_40 (by decide) ?_
            refine rr_icmp_eq 52 (pc := 42) B dX9_costTogether_42 (by decide) (by have := cm_r V d h; omega) (fun b4 => ?_) (fun b4 => ?_)
            · refine rr_ldc (z := 1000000) (pc := 52) B dX9_costTogether_52 cn_9_188 (by decide) ?_
              refine rr_ireturn (pc := 54) B Br dX9_costTogether_54 ⟨congrArg (fun z => some (aI z)) ?_, ?_⟩
              · rcases Classical.em (cm V d h = -3) with q | q
                · exact (okT_f d K0.1 (by omega) (okD_f1 (by assumption) q)).symm
                · obtain ⟨j, h0, h1, h2, h3⟩ := (whoC_a K1).mp (by omega)
                  exact (okT_f d K0.1 (by omega) (okD_f2 (by assumption) j h0 h1 h2 (by unfold apr; rw [decide_eq_true h3]; rfl))).symm
              · first | rfl | assumption
            · refine rr_iload7 (pc := 45) B dX9_costTogether_45 ?_
              refine rr_iload3 (pc := 47) B dX9_costTogether_47 ?_
              refine rr_andN (pc := 48) B dX9_costTogether_48 (by have := cm_r V d h; omega) (fun b5 => ?_)
              refine rr_if_eq 55 (pc := 49) B dX9_costTogether_49 (by decide) (by omega) (fun b6 => ?_) (fun b6 => ?_)
              · refine rr_iload3 (pc := 55) B dX9_costTogether_55 ?_
                refine rr_iload7 (pc := 56) B dX9_costTogether_56 ?_
                refine rr_orN 8 (pc := 58) B dX9_costTogether_58 (by decide) (by have := cm_r V d h; omega) (fun b7 => ?_)
                refine rr_istore3 (pc := 59) B dX9_costTogether_59 rfl ?_
                refine rr_iload4 (pc := 60) B dX9_costTogether_60 ?_
                refine rr_aload0 (pc := 62) B dX9_costTogether_62 ?_
                refine rr_iload7 (pc := 63) B dX9_costTogether_63 ?_
                refine rc_VI1 (pc := 65) B dX9_costTogether_65 vm_X9_pricesOf lk_9_182 so_9 rfl (ct_X9_pricesOf _ _ _ _ (by first | assumption | (have := cm_r V d h; omega)) (by first | assumption | (have := cm_r V d h; omega))) (Nat.le_of_ble_eq_true rfl) (Nat.le_of_ble_eq_true rfl) ?_
                refine rr_iadd (pc := 68) B dX9_costTogether_68 ?_
                refine rr_istore4 (pc := 69) B dX9_costTogether_69 rfl ?_
                refine rr_iload5 (pc := 71) B dX9_costTogether_71 ?_
                refine rr_if_ne 86 (pc := 73) B dX9_costTogether_73 (by decide) (by have := bi_r (tT V set h d); omega) (fun b8 => ?_) (fun b8 => ?_)
                · refine rr_iconst (z := 1) (pc := 86) B dX9_costTogether_86 ?_
                  refine rr_goto 91 (pc := 87) B dX9_costTogether_87 (by decide) ?_
                  refine ih.2.1 _ _ _ _ _ _ _ _ ?_ ?_ ?_ ?_ ?_ ?_ ?_ ?_ ?_ ?_
                  · omega
                  · exact whoC_s (by omega) K1 (by assumption)
                  · assumption
                  · unfold sT; rw [itI_s _ _ (by omega)]; unfold sT at K3; rw [← K3, if_pos (by assumption)]
                  · rw [tT_s _ _ _ (by omega), show tb set d = true by assumption, Bool.true_and]; cases q1 : tT V set h d <;> cases q2 : trn V d h <;> simp_all [bi]
                  · assumption
                  · assumption
                  · assumption
                  · intro j h0 h1 h2
                    rcases Classical.em (nA (cm V d h) (cm V j h) = 0) with q | q
                    · exact q
                    · exact absurd ((whoC_a K1).mpr ⟨j, h0, h1, h2, q⟩) (by omega)
                  · omega
                · refine rr_aload0 (pc := 76) B dX9_costTogether_76 ?_
                  refine rr_iload6 (pc := 77) B dX9_costTogether_77 ?_
                  refine rr_iload2 (pc := 79) B dX9_costTogether_79 ?_
                  refine rc_VI2 (pc := 80) B dX9_costTogether_80 vm_X9_isTurned lk_9_167 so_9 rfl (ct_X9_isTurned _ _ _ _ _ (by omega) (by omega) (by omega)) (Nat.le_of_ble_eq_true rfl) (Nat.le_of_ble_eq_true rfl) ?_
                  refine rr_if_eqB 90 (pc := 83) B dX9_costTogether_83 (by decide) (fun b9 => ?_) (fun b9 => ?_)
                  · refine rr_iconst (z := 0) (pc := 90) B dX9_costTogether_90 ?_
                    refine ih.2.1 _ _ _ _ _ _ _ _ ?_ ?_ ?_ ?_ ?_ ?_ ?_ ?_ ?_ ?_
                    · omega
                    · exact whoC_s (by omega) K1 (by assumption)
                    · assumption
                    · unfold sT; rw [itI_s _ _ (by omega)]; unfold sT at K3; rw [← K3, if_pos (by assumption)]
                    · rw [tT_s _ _ _ (by omega), show tb set d = true by assumption, Bool.true_and]; cases q1 : tT V set h d <;> cases q2 : trn V d h <;> simp_all [bi]
                    · assumption
                    · assumption
                    · assumption
                    · intro j h0 h1 h2
                      rcases Classical.em (nA (cm V d h) (cm V j h) = 0) with q | q
                      · exact q
                      · exact absurd ((whoC_a K1).mpr ⟨j, h0, h1, h2, q⟩) (by omega)
                    · omega
                  · refine rr_iconst (z := 1) (pc := 86) B dX9_costTogether_86 ?_
                    refine rr_goto 91 (pc := 87) B dX9_costTogether_87 (by decide) ?_
                    refine ih.2.1 _ _ _ _ _ _ _ _ ?_ ?_ ?_ ?_ ?_ ?_ ?_ ?_ ?_ ?_
                    · omega
                    · exact whoC_s (by omega) K1 (by assumption)
                    · assumption
                    · unfold sT; rw [itI_s _ _ (by omega)]; unfold sT at K3; rw [← K3, if_pos (by assumption)]
                    · rw [tT_s _ _ _ (by omega), show tb set d = true by assumption, Bool.true_and]; cases q1 : tT V set h d <;> cases q2 : trn V d h <;> simp_all [bi]
                    · assumption
                    · assumption
                    · assumption
                    · intro j h0 h1 h2
                      rcases Classical.em (nA (cm V d h) (cm V j h) = 0) with q | q
                      · exact q
                      · exact absurd ((whoC_a K1).mpr ⟨j, h0, h1, h2, q⟩) (by omega)
                    · omega
              · refine rr_ldc (z := 1000000) (pc := 52) B dX9_costTogether_52 cn_9_188 (by decide) ?_
                refine rr_ireturn (pc := 54) B Br dX9_costTogether_54 ⟨congrArg (fun z => some (aI z)) ?_, ?_⟩
                · rcases Classical.em (cm V d h = -3) with q | q
                  · exact (okT_f d K0.1 (by omega) (okD_f1 (by assumption) q)).symm
                  · obtain ⟨j, h0, h1, h2, h3⟩ := (whoC_a K1).mp (by omega)
                    exact (okT_f d K0.1 (by omega) (okD_f2 (by assumption) j h0 h1 h2 (by unfold apr; rw [decide_eq_true h3]; rfl))).symm
                · first | rfl | assumption
      · intro who s1 t1 d t0 w8 w9 w10 K0 K1 K2 K3 K4 K5 K6 K7 K8 hm
        refine rr_istore5 (pc := 91) B dX9_costTogether_91 rfl ?_
        refine rr_iconst (z := 0) (pc := 93) B dX9_costTogether_93 ?_
        refine rr_istore8 (pc := 94) B dX9_costTogether_94 rfl ?_
        refine ih.2.2.1 _ _ _ _ _ _ _ ?_ ?_ ?_ ?_ ?_ ?_ ?_ ?_ ?_ ?_ ?_ ?_
        · omega
        · assumption
        · assumption
        · assumption
        · assumption
        · assumption
        · assumption
        · assumption
        · assumption
        · omega
        · intro j h0 h1; omega
        · omega
      · intro who s1 t1 d e w9 w10 K0 K1 K2 K3 K4 K5 K6 K7 K8 K9 K10 hm
        refine rr_iload8 (pc := 96) B dX9_costTogether_96 ?_
        refine rr_iload6 (pc := 98) B dX9_costTogether_98 ?_
        refine rr_icmp_ge 252 (pc := 100) B dX9_costTogether_100 (by decide) (by omega) (fun b1 => ?_) (fun b1 => ?_)
        · refine rr_iinc6 (z := 1) (pc := 252) B dX9_costTogether_252 rfl ?_
          refine rr_goto 11 (pc := 255) B dX9_costTogether_255 (by decide) ?_
          refine ih.1 _ _ _ _ _ _ _ _ ?_ ?_ ?_ ?_ ?_ ?_ ?_
          · omega
          · first | assumption | exact whoC_n K1 (by assumption)
          · assumption
          · first | assumption | (unfold sT; rw [itI_s _ _ (by omega)]; unfold sT at K3; rw [← K3, if_neg (by simp_all)]; omega)
          · first | assumption | (rw [tT_s _ _ _ (by omega), show tb set d = false by assumption, Bool.false_and, Bool.or_false]; assumption)
          · intro j h0 h1
            rcases Int.lt_or_eq_of_le (show j ≤ d by omega) with q | q
            · exact K5 j h0 q
            · rw [q]
              first | exact okD_n (by assumption) | exact okD_t K0.1 K7 (fun j h0 h1 h2 => by unfold apr; rw [K8 j h0 h1 h2, (K10 j h0 (by omega) h2).1, (K10 j h0 (by omega) h2).2]; rfl)
          · omega
        · refine rr_iload1 (pc := 103) B dX9_costTogether_103 ?_
          refine rr_iload8 (pc := 104) B dX9_costTogether_104 ?_
          refine rc_SI2 (pc := 106) B dX9_costTogether_106 st_X9_isIn lk_9_119 (ct_X9_isIn _ _ _ _  (by omega) (by omega)) (Nat.le_of_ble_eq_true rfl) (Nat.le_of_ble_eq_true rfl) ?_
          refine rr_if_eqB 165 (pc := 109) B dX9_costTogether_109 (by decide) (fun b2 => ?_) (fun b2 => ?_)
          · refine rr_iconst (z := 0) (pc := 165) B dX9_costTogether_165 ?_
            refine ih.2.2.2.1 _ _ _ _ _ _ _ _ ?_ ?_ ?_ ?_ ?_ ?_ ?_ ?_ ?_ ?_ ?_ ?_ ?_ ?_
            · omega
            · assumption
            · assumption
            · assumption
            · assumption
            · assumption
            · assumption
            · assumption
            · assumption
            · omega
            · assumption
            · unfold apP; first | (rw [decide_eq_true (by omega), show tb set e = true by assumption]; rfl) | (rw [decide_eq_false (by omega), Bool.and_false]; rfl) | (rw [show tb set e = false by assumption]; rfl)
            · omega
            · omega
          · refine rr_aload0 (pc := 112) B dX9_costTogether_112 ?_
            refine rr_getR (pc := 113) B dX9_costTogether_113 fl_9_37 or_9_11 ?_
            refine rr_aload0 (pc := 116) B dX9_costTogether_116 ?_
            refine rr_getR (pc := 117) B dX9_costTogether_117 fl_9_16 or_9_3 ?_
            refine rr_iload6 (pc := 120) B dX9_costTogether_120 ?_
            refine rr_ialoadE (pc := 122) B dX9_costTogether_122 sa_47 (by omega) (HV 47 _ ⟨by omega, by omega⟩) (fun b3 => ?_)
            refine rr_ialoadE (pc := 123) B dX9_costTogether_123 sa_54 (by omega) (HV 54 _ ⟨by omega, by omega⟩) (fun b4 => ?_)
            refine rr_iconst (z := 1) (pc := 124) B dX9_costTogether_124 ?_
            refine rr_icmp_ne 165 (pc := 125) B dX9_costTogether_125 (by decide) (by omega) (fun b5 => ?_) (fun b5 => ?_)
            · refine rr_iconst (z := 0) (pc := 165) B dX9_costTogether_165 ?_
              refine ih.2.2.2.1 _ _ _ _ _ _ _ _ ?_ ?_ ?_ ?_ ?_ ?_ ?_ ?_ ?_ ?_ ?_ ?_ ?_ ?_
              · omega
              · assumption
              · assumption
              · assumption
              · assumption
              · assumption
              · assumption
              · assumption
              · assumption
              · omega
              · assumption
              · unfold apP; first | (rw [decide_eq_true (by omega), show tb set e = true by assumption]; rfl) | (rw [decide_eq_false (by omega), Bool.and_false]; rfl) | (rw [show tb set e = false by assumption]; rfl)
              · omega
              · omega
            · refine rr_aload0 (pc := 128) B dX9_costTogether_128 ?_
              refine rr_getR (pc := 129) B dX9_costTogether_129 fl_9_37 or_9_11 ?_
              refine rr_aload0 (pc := 132) B dX9_costTogether_132 ?_
              refine rr_getR (pc := 133) B dX9_costTogether_133 fl_9_16 or_9_3 ?_
              refine rr_iload8 (pc := 136) B dX9_costTogether_136 ?_
              refine rr_ialoadE (pc := 138) B dX9_costTogether_138 sa_47 (by omega) (HV 47 _ ⟨by omega, by omega⟩) (fun b6 => ?_)
              refine rr_ialoadE (pc := 139) B dX9_costTogether_139 sa_54 (by omega) (HV 54 _ ⟨by omega, by omega⟩) (fun b7 => ?_)
              refine rr_iconst (z := 1) (pc := 140) B dX9_costTogether_140 ?_
              refine rr_icmp_ne 165 (pc := 141) B dX9_costTogether_141 (by decide) (by omega) (fun b8 => ?_) (fun b8 => ?_)
              · refine rr_iconst (z := 0) (pc := 165) B dX9_costTogether_165 ?_
                refine ih.2.2.2.1 _ _ _ _ _ _ _ _ ?_ ?_ ?_ ?_ ?_ ?_ ?_ ?_ ?_ ?_ ?_ ?_ ?_ ?_
                · omega
                · assumption
                · assumption
                · assumption
                · assumption
                · assumption
                · assumption
                · assumption
                · assumption
                · omega
                · assumption
                · unfold apP; first | (rw [decide_eq_true (by omega), show tb set e = true by assumption]; rfl) | (rw [decide_eq_false (by omega), Bool.and_false]; rfl) | (rw [show tb set e = false by assumption]; rfl)
                · omega
                · omega
              · refine rr_aload0 (pc := 144) B dX9_costTogether_144 ?_
                refine rr_getR (pc := 145) B dX9_costTogether_145 fl_9_19 or_9_4 ?_
                refine rr_iload6 (pc := 148) B dX9_costTogether_148 ?_
                refine rr_ialoadE (pc := 150) B dX9_costTogether_150 sa_48 (by omega) (HV 48 _ ⟨by omega, by omega⟩) (fun b9 => ?_)
                refine rr_aload0 (pc := 151) B dX9_costTogether_151 ?_
                refine rr_getR (pc := 152) B dX9_costTogether_152 fl_9_19 or_9_4 ?_
                refine rr_iload8 (pc := 155) B dX9_costTogether_155 ?_
                refine rr_ialoadE (pc := 157) B dX9_costTogether_157 sa_48 (by omega) (HV 48 _ ⟨by omega, by omega⟩) (fun b10 => ?_)
                refine rr_icmp_ne 165 (pc := 158) B dX9_costTogether_158 (by decide) (by omega) (fun b11 => ?_) (fun b11 => ?_)
                · refine rr_iconst (z := 0) (pc := 165) B dX9_costTogether_165 ?_
                  refine ih.2.2.2.1 _ _ _ _ _ _ _ _ ?_ ?_ ?_ ?_ ?_ ?_ ?_ ?_ ?_ ?_ ?_ ?_ ?_ ?_
                  · omega
                  · assumption
                  · assumption
                  · assumption
                  · assumption
                  · assumption
                  · assumption
                  · assumption
                  · assumption
                  · omega
                  · assumption
                  · unfold apP; first | (rw [decide_eq_true (by omega), show tb set e = true by assumption]; rfl) | (rw [decide_eq_false (by omega), Bool.and_false]; rfl) | (rw [show tb set e = false by assumption]; rfl)
                  · omega
                  · omega
                · refine rr_iconst (z := 1) (pc := 161) B dX9_costTogether_161 ?_
                  refine rr_goto 166 (pc := 162) B dX9_costTogether_162 (by decide) ?_
                  refine ih.2.2.2.1 _ _ _ _ _ _ _ _ ?_ ?_ ?_ ?_ ?_ ?_ ?_ ?_ ?_ ?_ ?_ ?_ ?_ ?_
                  · omega
                  · assumption
                  · assumption
                  · assumption
                  · assumption
                  · assumption
                  · assumption
                  · assumption
                  · assumption
                  · omega
                  · assumption
                  · unfold apP; first | (rw [decide_eq_true (by omega), show tb set e = true by assumption]; rfl) | (rw [decide_eq_false (by omega), Bool.and_false]; rfl) | (rw [show tb set e = false by assumption]; rfl)
                  · omega
                  · omega
      · intro who s1 t1 d e pl w9 w10 K0 K1 K2 K3 K4 K5 K6 K7 K8 K9 K10 K11 K12 hm
        refine rr_istore9 (pc := 166) B dX9_costTogether_166 rfl ?_
        refine rr_iload1 (pc := 168) B dX9_costTogether_168 ?_
        refine rr_iload8 (pc := 169) B dX9_costTogether_169 ?_
        refine rc_SI2 (pc := 171) B dX9_costTogether_171 st_X9_isIn lk_9_119 (ct_X9_isIn _ _ _ _  (by omega) (by omega)) (Nat.le_of_ble_eq_true rfl) (Nat.le_of_ble_eq_true rfl) ?_
        refine rr_if_eqB 230 (pc := 174) B dX9_costTogether_174 (by decide) (fun b1 => ?_) (fun b1 => ?_)
        · refine rr_iconst (z := 0) (pc := 230) B dX9_costTogether_230 ?_
          refine ih.2.2.2.2.1 _ _ _ _ _ _ _ _ ?_ ?_ ?_ ?_ ?_ ?_ ?_ ?_ ?_ ?_ ?_ ?_ ?_ ?_ ?_
          · omega
          · assumption
          · assumption
          · assumption
          · assumption
          · assumption
          · assumption
          · assumption
          · assumption
          · omega
          · assumption
          · assumption
          · unfold apR; first | (rw [decide_eq_true (by omega), show tb set e = true by assumption]; rfl) | (rw [decide_eq_false (by omega), Bool.and_false]; rfl) | (rw [show tb set e = false by assumption]; rfl)
          · omega
          · omega
        · refine rr_aload0 (pc := 177) B dX9_costTogether_177 ?_
          refine rr_getR (pc := 178) B dX9_costTogether_178 fl_9_34 or_9_10 ?_
          refine rr_aload0 (pc := 181) B dX9_costTogether_181 ?_
          refine rr_getR (pc := 182) B dX9_costTogether_182 fl_9_16 or_9_3 ?_
          refine rr_iload6 (pc := 185) B dX9_costTogether_185 ?_
          refine rr_ialoadE (pc := 187) B dX9_costTogether_187 sa_47 (by omega) (HV 47 _ ⟨by omega, by omega⟩) (fun b2 => ?_)
          refine rr_ialoadE (pc := 188) B dX9_costTogether_188 sa_53 (by omega) (HV 53 _ ⟨by omega, by omega⟩) (fun b3 => ?_)
          refine rr_iconst (z := 1) (pc := 189) B dX9_costTogether_189 ?_
          refine rr_icmp_ne 230 (pc := 190) B dX9_costTogether_190 (by decide) (by omega) (fun b4 => ?_) (fun b4 => ?_)
          · refine rr_iconst (z := 0) (pc := 230) B dX9_costTogether_230 ?_
            refine ih.2.2.2.2.1 _ _ _ _ _ _ _ _ ?_ ?_ ?_ ?_ ?_ ?_ ?_ ?_ ?_ ?_ ?_ ?_ ?_ ?_ ?_
            · omega
            · assumption
            · assumption
            · assumption
            · assumption
            · assumption
            · assumption
            · assumption
            · assumption
            · omega
            · assumption
            · assumption
            · unfold apR; first | (rw [decide_eq_true (by omega), show tb set e = true by assumption]; rfl) | (rw [decide_eq_false (by omega), Bool.and_false]; rfl) | (rw [show tb set e = false by assumption]; rfl)
            · omega
            · omega
          · refine rr_aload0 (pc := 193) B dX9_costTogether_193 ?_
            refine rr_getR (pc := 194) B dX9_costTogether_194 fl_9_34 or_9_10 ?_
            refine rr_aload0 (pc := 197) B dX9_costTogether_197 ?_
            refine rr_getR (pc := 198) B dX9_costTogether_198 fl_9_16 or_9_3 ?_
            refine rr_iload8 (pc := 201) B dX9_costTogether_201 ?_
            refine rr_ialoadE (pc := 203) B dX9_costTogether_203 sa_47 (by omega) (HV 47 _ ⟨by omega, by omega⟩) (fun b5 => ?_)
            refine rr_ialoadE (pc := 204) B dX9_costTogether_204 sa_53 (by omega) (HV 53 _ ⟨by omega, by omega⟩) (fun b6 => ?_)
            refine rr_iconst (z := 1) (pc := 205) B dX9_costTogether_205 ?_
            refine rr_icmp_ne 230 (pc := 206) B dX9_costTogether_206 (by decide) (by omega) (fun b7 => ?_) (fun b7 => ?_)
            · refine rr_iconst (z := 0) (pc := 230) B dX9_costTogether_230 ?_
              refine ih.2.2.2.2.1 _ _ _ _ _ _ _ _ ?_ ?_ ?_ ?_ ?_ ?_ ?_ ?_ ?_ ?_ ?_ ?_ ?_ ?_ ?_
              · omega
              · assumption
              · assumption
              · assumption
              · assumption
              · assumption
              · assumption
              · assumption
              · assumption
              · omega
              · assumption
              · assumption
              · unfold apR; first | (rw [decide_eq_true (by omega), show tb set e = true by assumption]; rfl) | (rw [decide_eq_false (by omega), Bool.and_false]; rfl) | (rw [show tb set e = false by assumption]; rfl)
              · omega
              · omega
            · refine rr_aload0 (pc := 209) B dX9_costTogether_209 ?_
              refine rr_getR (pc := 210) B dX9_costTogether_210 fl_9_22 or_9_5 ?_
              refine rr_iload6 (pc := 213) B dX9_costTogether_213 ?_
              refine rr_ialoadE (pc := 215) B dX9_costTogether_215 sa_49 (by omega) (HV 49 _ ⟨by omega, by omega⟩) (fun b8 => ?_)
              refine rr_aload0 (pc := 216) B dX9_costTogether_216 ?_
              refine rr_getR (pc := 217) B dX9_costTogether_217 fl_9_22 or_9_5 ?_
              refine rr_iload8 (pc := 220) B dX9_costTogether_220 ?_
              refine rr_ialoadE (pc := 222) B dX9_costTogether_222 sa_49 (by omega) (HV 49 _ ⟨by omega, by omega⟩) (fun b9 => ?_)
              refine rr_icmp_eq 230 (pc := 223) B dX9_costTogether_223 (by decide) (by omega) (fun b10 => ?_) (fun b10 => ?_)
              · refine rr_iconst (z := 0) (pc := 230) B dX9_costTogether_230 ?_
                refine ih.2.2.2.2.1 _ _ _ _ _ _ _ _ ?_ ?_ ?_ ?_ ?_ ?_ ?_ ?_ ?_ ?_ ?_ ?_ ?_ ?_ ?_
                · omega
                · assumption
                · assumption
                · assumption
                · assumption
                · assumption
                · assumption
                · assumption
                · assumption
                · omega
                · assumption
                · assumption
                · unfold apR; first | (rw [decide_eq_true (by omega), show tb set e = true by assumption]; rfl) | (rw [decide_eq_false (by omega), Bool.and_false]; rfl) | (rw [show tb set e = false by assumption]; rfl)
                · omega
                · omega
              · refine rr_iconst (z := 1) (pc := 226) B dX9_costTogether_226 ?_
                refine rr_goto 231 (pc := 227) B dX9_costTogether_227 (by decide) ?_
                refine ih.2.2.2.2.1 _ _ _ _ _ _ _ _ ?_ ?_ ?_ ?_ ?_ ?_ ?_ ?_ ?_ ?_ ?_ ?_ ?_ ?_ ?_
                · omega
                · assumption
                · assumption
                · assumption
                · assumption
                · assumption
                · assumption
                · assumption
                · assumption
                · omega
                · assumption
                · assumption
                · unfold apR; first | (rw [decide_eq_true (by omega), show tb set e = true by assumption]; rfl) | (rw [decide_eq_false (by omega), Bool.and_false]; rfl) | (rw [show tb set e = false by assumption]; rfl)
                · omega
                · omega
      · intro who s1 t1 d e pl rn w10 K0 K1 K2 K3 K4 K5 K6 K7 K8 K9 K10 K11 K12 K13 hm
        have Q1 := bi_r (tb set e && apP V d e)
        have Q2 := bi_r (tb set e && apR V d e)
        refine rr_istore10 (pc := 231) B dX9_costTogether_231 rfl ?_
        refine rr_iload9 (pc := 233) B dX9_costTogether_233 ?_
        refine rr_if_ne 243 (pc := 235) B dX9_costTogether_235 (by decide) (by omega) (fun b1 => ?_) (fun b1 => ?_)
        · refine rr_ldc (z := 1000000) (pc := 243) B dX9_costTogether_243 cn_9_188 (by decide) ?_
          refine rr_ireturn (pc := 245) B Br dX9_costTogether_245 ⟨congrArg (fun z => some (aI z)) ?_, ?_⟩
          · refine (okT_f d K0.1 (by omega) (okD_f2 K6 e (by omega) (by omega) ?_ ?_)).symm
            · cases q3 : tb set e with
              | true => rfl
              | false => rw [q3] at K11 K12; simp_all [bi]
            · unfold apr; cases q3 : apP V d e <;> cases q4 : apR V d e <;> cases q5 : tb set e <;> simp_all [bi]
          · first | rfl | assumption
        · refine rr_iload10 (pc := 238) B dX9_costTogether_238 ?_
          refine rr_if_eq 246 (pc := 240) B dX9_costTogether_240 (by decide) (by omega) (fun b2 => ?_) (fun b2 => ?_)
          · refine rr_iinc8 (z := 1) (pc := 246) B dX9_costTogether_246 rfl ?_
            refine rr_goto 96 (pc := 249) B dX9_costTogether_249 (by decide) ?_
            refine ih.2.2.1 _ _ _ _ _ _ _ ?_ ?_ ?_ ?_ ?_ ?_ ?_ ?_ ?_ ?_ ?_ ?_
            · omega
            · assumption
            · assumption
            · assumption
            · assumption
            · assumption
            · assumption
            · assumption
            · assumption
            · omega
            · intro j h0 h1 h2
              rcases Int.lt_or_eq_of_le (show j ≤ e by omega) with q | q
              · exact K10 j h0 q h2
              · rw [q]; rw [q] at h2; rw [h2] at K11 K12; constructor
                · cases q3 : apP V d e <;> simp_all [bi]
                · cases q3 : apR V d e <;> simp_all [bi]
            · omega
          · refine rr_ldc (z := 1000000) (pc := 243) B dX9_costTogether_243 cn_9_188 (by decide) ?_
            refine rr_ireturn (pc := 245) B Br dX9_costTogether_245 ⟨congrArg (fun z => some (aI z)) ?_, ?_⟩
            · refine (okT_f d K0.1 (by omega) (okD_f2 K6 e (by omega) (by omega) ?_ ?_)).symm
              · cases q3 : tb set e with
                | true => rfl
                | false => rw [q3] at K11 K12; simp_all [bi]
              · unfold apr; cases q3 : apP V d e <;> cases q4 : apR V d e <;> cases q5 : tb set e <;> simp_all [bi]
            · first | rfl | assumption
  refine rr_iconst (z := 0) (pc := 0) B dX9_costTogether_0 ?_
  refine rr_istore3 (pc := 1) B dX9_costTogether_1 rfl ?_
  refine rr_iconst (z := 0) (pc := 2) B dX9_costTogether_2 ?_
  refine rr_istore4 (pc := 3) B dX9_costTogether_3 rfl ?_
  refine rr_iconst (z := 0) (pc := 5) B dX9_costTogether_5 ?_
  refine rr_istore5 (pc := 6) B dX9_costTogether_6 rfl ?_
  refine rr_iconst (z := 0) (pc := 8) B dX9_costTogether_8 ?_
  refine rr_istore6 (pc := 9) B dX9_costTogether_9 rfl ?_
  refine (L _).1 _ _ _ _ _ _ _ _ ?_ ?_ ?_ ?_ ?_ ?_ (Nat.lt_succ_self _)
  · omega
  · exact whoC_0 V set h
  · omega
  · rfl
  · rfl
  · intro j h0 h1; omega
