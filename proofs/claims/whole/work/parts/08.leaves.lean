set_option maxHeartbeats 4000000 in
set_option maxRecDepth 100000 in
theorem ct_X9_in (g : ax_G) (M : ax_M) (v low high : Int) (H0 : -2147483648 ≤ v ∧ v ≤ 2147483647 ∧ -2147483648 ≤ low ∧ low ≤ 2147483647 ∧ -2147483648 ≤ high ∧ high ≤ 2147483647) : CT g md_X9_in 0 [aI v, aI low, aI high] M (pI (bi (decide (low ≤ v ∧ v ≤ high))) (M)) := by
  refine ct_intro 0 rfl rfl ?_
  intro X hg B Br
  subst hg
  show AW X 0 [some (aI v), some (aI low), some (aI high)] [] M
  refine rr_rg (fun G0 => ?_)
  refine rr_iload0 (pc := 0) B dX9_in_0 ?_
  refine rr_iload1 (pc := 1) B dX9_in_1 ?_
  refine rr_icmp_lt 14 (pc := 2) B dX9_in_2 (by decide) (by omega) (fun b1 => ?_) (fun b1 => ?_)
  · refine rr_iconst (z := 0) (pc := 14) B dX9_in_14 ?_
    refine rr_zreturn (pc := 15) B Br dX9_in_15 (by omega) ⟨congrArg (fun z => some (aI z)) ?_, ?_⟩
    · first | rfl | omega | (rw [decide_eq_true (by omega)]; rfl) | (rw [decide_eq_false (by omega)]; rfl) | (simp [*]; done)
    · first | rfl | assumption
  · refine rr_iload0 (pc := 5) B dX9_in_5 ?_
    refine rr_iload2 (pc := 6) B dX9_in_6 ?_
    refine rr_icmp_gt 14 (pc := 7) B dX9_in_7 (by decide) (by omega) (fun b2 => ?_) (fun b2 => ?_)
    · refine rr_iconst (z := 0) (pc := 14) B dX9_in_14 ?_
      refine rr_zreturn (pc := 15) B Br dX9_in_15 (by omega) ⟨congrArg (fun z => some (aI z)) ?_, ?_⟩
      · first | rfl | omega | (rw [decide_eq_true (by omega)]; rfl) | (rw [decide_eq_false (by omega)]; rfl) | (simp [*]; done)
      · first | rfl | assumption
    · refine rr_iconst (z := 1) (pc := 10) B dX9_in_10 ?_
      refine rr_goto 15 (pc := 11) B dX9_in_11 (by decide) ?_
      refine rr_zreturn (pc := 15) B Br dX9_in_15 (by omega) ⟨congrArg (fun z => some (aI z)) ?_, ?_⟩
      · first | rfl | omega | (rw [decide_eq_true (by omega)]; rfl) | (rw [decide_eq_false (by omega)]; rfl) | (simp [*]; done)
      · first | rfl | assumption
set_option maxHeartbeats 4000000 in
set_option maxRecDepth 100000 in
theorem ct_X9_isIn (g : ax_G) (M : ax_M) (bits k : Int) (H0 : 0 ≤ bits ∧ bits ≤ 2147483647) (H1 : 0 ≤ k ∧ k ≤ 31) : CT g md_X9_isIn 0 [aI bits, aI k] M (pI (bi (tb bits k)) (M)) := by
  refine ct_intro 0 rfl rfl ?_
  intro X hg B Br
  subst hg
  show AW X 0 [some (aI bits), some (aI k)] [] M
  refine rr_rg (fun G0 => ?_)
  refine rr_iload0 (pc := 0) B dX9_isIn_0 ?_
  refine rr_iload1 (pc := 1) B dX9_isIn_1 ?_
  refine rr_tb (pc := 2) B dX9_isIn_2 dX9_isIn_3 dX9_isIn_4 (by have := bi_r (tb bits k); omega) (by omega) ?_
  refine rr_iconst (z := 1) (pc := 5) B dX9_isIn_5 ?_
  refine rr_icmp_ne 13 (pc := 6) B dX9_isIn_6 (by decide) (by have := bi_r (tb bits k); omega) (fun b1 => ?_) (fun b1 => ?_)
  · refine rr_iconst (z := 0) (pc := 13) B dX9_isIn_13 ?_
    refine rr_zreturn (pc := 14) B Br dX9_isIn_14 (by omega) ⟨congrArg (fun z => some (aI z)) ?_, ?_⟩
    · first | (cases h : tb bits k <;> simp_all [bi]; done)
    · first | rfl | assumption
  · refine rr_iconst (z := 1) (pc := 9) B dX9_isIn_9 ?_
    refine rr_goto 14 (pc := 10) B dX9_isIn_10 (by decide) ?_
    refine rr_zreturn (pc := 14) B Br dX9_isIn_14 (by omega) ⟨congrArg (fun z => some (aI z)) ?_, ?_⟩
    · first | (cases h : tb bits k <;> simp_all [bi]; done)
    · first | rfl | assumption
set_option maxHeartbeats 4000000 in
set_option maxRecDepth 100000 in
theorem ct_X8_hasBit (g : ax_G) (M : ax_M) (bits i : Int) (H0 : 0 ≤ bits ∧ bits ≤ 2147483647) (H1 : 0 ≤ i ∧ i ≤ 31) : CT g md_X8_hasBit 0 [aI bits, aI i] M (pI (bi (tb bits i)) (M)) := by
  refine ct_intro 0 rfl rfl ?_
  intro X hg B Br
  subst hg
  show AW X 0 [some (aI bits), some (aI i)] [] M
  refine rr_rg (fun G0 => ?_)
  refine rr_iload0 (pc := 0) B dX8_hasBit_0 ?_
  refine rr_iload1 (pc := 1) B dX8_hasBit_1 ?_
  refine rr_tb (pc := 2) B dX8_hasBit_2 dX8_hasBit_3 dX8_hasBit_4 (by omega) (by omega) ?_
  refine rr_if_eqB 12 (pc := 5) B dX8_hasBit_5 (by decide) (fun b1 => ?_) (fun b1 => ?_)
  · refine rr_iconst (z := 0) (pc := 12) B dX8_hasBit_12 ?_
    refine rr_zreturn (pc := 13) B Br dX8_hasBit_13 (by omega) ⟨congrArg (fun z => some (aI z)) ?_, ?_⟩
    · rw [b1]; rfl
    · first | rfl | assumption
  · refine rr_iconst (z := 1) (pc := 8) B dX8_hasBit_8 ?_
    refine rr_goto 13 (pc := 9) B dX8_hasBit_9 (by decide) ?_
    refine rr_zreturn (pc := 13) B Br dX8_hasBit_13 (by omega) ⟨congrArg (fun z => some (aI z)) ?_, ?_⟩
    · rw [b1]; rfl
    · first | rfl | assumption
set_option maxHeartbeats 4000000 in
set_option maxRecDepth 100000 in
theorem ct_X8_within (g : ax_G) (M : ax_M) (v most : Int) (H0 : -2147483648 ≤ v ∧ v ≤ 2147483647 ∧ -2147483648 ≤ most ∧ most ≤ 2147483647) : CT g md_X8_within 0 [aI v, aI most] M (pI (bi (decide (0 ≤ v ∧ v ≤ most))) (M)) := by
  refine ct_intro 0 rfl rfl ?_
  intro X hg B Br
  subst hg
  show AW X 0 [some (aI v), some (aI most)] [] M
  refine rr_rg (fun G0 => ?_)
  refine rr_iload0 (pc := 0) B dX8_within_0 ?_
  refine rr_if_lt 13 (pc := 1) B dX8_within_1 (by decide) (by omega) (fun b1 => ?_) (fun b1 => ?_)
  · refine rr_iconst (z := 0) (pc := 13) B dX8_within_13 ?_
    refine rr_zreturn (pc := 14) B Br dX8_within_14 (by omega) ⟨congrArg (fun z => some (aI z)) ?_, ?_⟩
    · first | rfl | omega | (rw [decide_eq_true (by omega)]; rfl) | (rw [decide_eq_false (by omega)]; rfl) | (simp [*]; done)
    · first | rfl | assumption
  · refine rr_iload0 (pc := 4) B dX8_within_4 ?_
    refine rr_iload1 (pc := 5) B dX8_within_5 ?_
    refine rr_icmp_gt 13 (pc := 6) B dX8_within_6 (by decide) (by omega) (fun b2 => ?_) (fun b2 => ?_)
    · refine rr_iconst (z := 0) (pc := 13) B dX8_within_13 ?_
      refine rr_zreturn (pc := 14) B Br dX8_within_14 (by omega) ⟨congrArg (fun z => some (aI z)) ?_, ?_⟩
      · first | rfl | omega | (rw [decide_eq_true (by omega)]; rfl) | (rw [decide_eq_false (by omega)]; rfl) | (simp [*]; done)
      · first | rfl | assumption
    · refine rr_iconst (z := 1) (pc := 9) B dX8_within_9 ?_
      refine rr_goto 14 (pc := 10) B dX8_within_10 (by decide) ?_
      refine rr_zreturn (pc := 14) B Br dX8_within_14 (by omega) ⟨congrArg (fun z => some (aI z)) ?_, ?_⟩
      · first | rfl | omega | (rw [decide_eq_true (by omega)]; rfl) | (rw [decide_eq_false (by omega)]; rfl) | (simp [*]; done)
      · first | rfl | assumption
set_option maxHeartbeats 4000000 in
set_option maxRecDepth 100000 in
theorem ct_X9_ones (g : ax_G) (M : ax_M) (bits : Int) (H0 : 0 ≤ bits ∧ bits ≤ 2147483647) : CT g md_X9_ones 0 [aI bits] M (pI (on bits) (M)) := by
  refine ct_intro 2 rfl rfl ?_
  intro X hg B Br
  subst hg
  show AW X 0 [some (aI bits), none, none] [] M
  refine rr_rg (fun G0 => ?_)
  have L : ∀ n : Nat, (∀ (n1 k : Int), (0 ≤ k ∧ k ≤ 10) → (n1 = itI (fun k n => n + bi (tb bits k)) 0 k) → ((10 - k).toNat) < n → AW X 4 [some (aI bits), some (aI n1), some (aI k)] [] M) ∧ True := by
    intro n
    induction n with
    | zero => exact ⟨by intros; omega, trivial⟩
    | succ n ih =>
      refine ⟨?_, trivial⟩
      · intro n1 k K0 K1 hm
        refine rr_iload2 (pc := 4) B dX9_ones_4 ?_
        refine rr_bipush (z := 10) (pc := 5) B dX9_ones_5 (by decide) ?_
        refine rr_icmp_ge 24 (pc := 7) B dX9_ones_7 (by decide) (by omega) (fun b1 => ?_) (fun b1 => ?_)
        · refine rr_iload1 (pc := 24) B dX9_ones_24 ?_
          refine rr_ireturn (pc := 25) B Br dX9_ones_25 ⟨congrArg (fun z => some (aI z)) ?_, ?_⟩
          · rw [K1, show k = 10 by omega]; rfl
          · first | rfl | assumption
        · refine rr_iload1 (pc := 10) B dX9_ones_10 ?_
          refine rr_iload0 (pc := 11) B dX9_ones_11 ?_
          refine rr_iload2 (pc := 12) B dX9_ones_12 ?_
          refine rr_tb (pc := 13) B dX9_ones_13 dX9_ones_14 dX9_ones_15 (by omega) (by omega) ?_
          refine rr_iadd (pc := 16) B dX9_ones_16 ?_
          refine rr_istore1 (pc := 17) B dX9_ones_17 rfl ?_
          refine rr_iinc2 (z := 1) (pc := 18) B dX9_ones_18 rfl ?_
          refine rr_goto 4 (pc := 21) B dX9_ones_21 (by decide) ?_
          refine ih.1 _ _ ?_ ?_ ?_
          · omega
          · rw [itI_s _ _ K0.1, ← K1]
          · omega
  refine rr_iconst (z := 0) (pc := 0) B dX9_ones_0 ?_
  refine rr_istore1 (pc := 1) B dX9_ones_1 rfl ?_
  refine rr_iconst (z := 0) (pc := 2) B dX9_ones_2 ?_
  refine rr_istore2 (pc := 3) B dX9_ones_3 rfl ?_
  refine (L _).1 _ _ ?_ ?_ (Nat.lt_succ_self _)
  · omega
  · rfl
set_option maxHeartbeats 4000000 in
set_option maxRecDepth 100000 in
theorem ct_X9_no (g : ax_G) (M : ax_M) (refusal : Int) (H0 : -2147483648 ≤ refusal ∧ refusal ≤ 2147483647) : CT g md_X9_no 0 [aI refusal] M (pL (-9223372036854775808 - refusal) (M)) := by
  refine ct_intro 0 rfl rfl ?_
  intro X hg B Br
  subst hg
  show AW X 0 [some (aI refusal)] [] M
  refine rr_rg (fun G0 => ?_)
  refine rr_ldc2 (z := (-9223372036854775808)) (pc := 0) B dX9_no_0 cn_9_101 (by decide) ?_
  refine rr_iload0 (pc := 3) B dX9_no_3 ?_
  refine rr_i2l (pc := 4) B dX9_no_4 (by omega) ?_
  refine rr_lsub (pc := 5) B dX9_no_5 ?_
  refine rr_lreturn (pc := 6) B Br dX9_no_6 ⟨congrArg (fun z => some (aL z)) ?_, ?_⟩
  · first | rfl | omega | (rw [decide_eq_true (by omega)]; rfl) | (rw [decide_eq_false (by omega)]; rfl) | (simp [*]; done)
  · first | rfl | assumption
set_option maxHeartbeats 4000000 in
set_option maxRecDepth 100000 in
theorem ct_X8_refusal (g : ax_G) (M : ax_M) (answer : Int) (H0 : -2147483648 ≤ answer ∧ answer ≤ 2147483647) : CT g md_X8_refusal 0 [aI answer] M (pL (-9223372036854775808 - answer) (M)) := by
  refine ct_intro 0 rfl rfl ?_
  intro X hg B Br
  subst hg
  show AW X 0 [some (aI answer)] [] M
  refine rr_rg (fun G0 => ?_)
  refine rr_ldc2 (z := (-9223372036854775808)) (pc := 0) B dX8_refusal_0 cn_8_374 (by decide) ?_
  refine rr_iload0 (pc := 3) B dX8_refusal_3 ?_
  refine rr_i2l (pc := 4) B dX8_refusal_4 (by omega) ?_
  refine rr_lsub (pc := 5) B dX8_refusal_5 ?_
  refine rr_lreturn (pc := 6) B Br dX8_refusal_6 ⟨congrArg (fun z => some (aL z)) ?_, ?_⟩
  · first | rfl | omega | (rw [decide_eq_true (by omega)]; rfl) | (rw [decide_eq_false (by omega)]; rfl) | (simp [*]; done)
  · first | rfl | assumption
set_option maxHeartbeats 4000000 in
set_option maxRecDepth 100000 in
theorem ct_X8_mix (g : ax_G) (M : ax_M) (h v : Int) : CT g md_X8_mix 0 [aL h, aL v] M (pL (31 * h + v) (M)) := by
  refine ct_intro 0 rfl rfl ?_
  intro X hg B Br
  subst hg
  show AW X 0 [some (aL h), none, some (aL v), none] [] M
  refine rr_rg (fun G0 => ?_)
  refine rr_ldc2 (z := 31) (pc := 0) B dX8_mix_0 cn_8_372 (by decide) ?_
  refine rr_lload0 (pc := 3) B dX8_mix_3 ?_
  refine rr_lmul (pc := 4) B dX8_mix_4 ?_
  refine rr_lload2 (pc := 5) B dX8_mix_5 ?_
  refine rr_ladd (pc := 6) B dX8_mix_6 ?_
  refine rr_lreturn (pc := 7) B Br dX8_mix_7 ⟨congrArg (fun z => some (aL z)) ?_, ?_⟩
  · first | rfl | omega | (rw [decide_eq_true (by omega)]; rfl) | (rw [decide_eq_false (by omega)]; rfl) | (simp [*]; done)
  · first | rfl | assumption
set_option maxHeartbeats 4000000 in
set_option maxRecDepth 100000 in
theorem ct_J_bitCount (g : ax_G) (M : ax_M) (i : Int) (H0 : 0 ≤ i ∧ i ≤ 1023) : CT g md_J_bitCount 0 [aI i] M (pI (on i) (M)) := by
  refine ct_intro 0 rfl rfl ?_
  intro X hg B Br
  subst hg
  show AW X 0 [some (aI i)] [] M
  refine rr_rg (fun G0 => ?_)
  refine rr_iload0 (pc := 0) B dJ6_bitCount_0f7a4_0 ?_
  refine rr_iload0 (pc := 1) B dJ6_bitCount_0f7a4_1 ?_
  refine rr_iconst (z := 1) (pc := 2) B dJ6_bitCount_0f7a4_2 ?_
  refine rr_iushr (pc := 3) B dJ6_bitCount_0f7a4_3 ?_
  refine rr_ldcw (z := 1431655765) (pc := 4) B dJ6_bitCount_0f7a4_4 cn_J_265 (by decide) ?_
  refine rr_iand (pc := 7) B dJ6_bitCount_0f7a4_7 ?_
  refine rr_isub (pc := 8) B dJ6_bitCount_0f7a4_8 ?_
  refine rr_istore0 (pc := 9) B dJ6_bitCount_0f7a4_9 ?_
  refine rr_iload0 (pc := 10) B dJ6_bitCount_0f7a4_10 ?_
  refine rr_ldcw (z := 858993459) (pc := 11) B dJ6_bitCount_0f7a4_11 cn_J_266 (by decide) ?_
  refine rr_iand (pc := 14) B dJ6_bitCount_0f7a4_14 ?_
  refine rr_iload0 (pc := 15) B dJ6_bitCount_0f7a4_15 ?_
  refine rr_iconst (z := 2) (pc := 16) B dJ6_bitCount_0f7a4_16 ?_
  refine rr_iushr (pc := 17) B dJ6_bitCount_0f7a4_17 ?_
  refine rr_ldcw (z := 858993459) (pc := 18) B dJ6_bitCount_0f7a4_18 cn_J_266 (by decide) ?_
  refine rr_iand (pc := 21) B dJ6_bitCount_0f7a4_21 ?_
  refine rr_iadd (pc := 22) B dJ6_bitCount_0f7a4_22 ?_
  refine rr_istore0 (pc := 23) B dJ6_bitCount_0f7a4_23 ?_
  refine rr_iload0 (pc := 24) B dJ6_bitCount_0f7a4_24 ?_
  refine rr_iload0 (pc := 25) B dJ6_bitCount_0f7a4_25 ?_
  refine rr_iconst (z := 4) (pc := 26) B dJ6_bitCount_0f7a4_26 ?_
  refine rr_iushr (pc := 27) B dJ6_bitCount_0f7a4_27 ?_
  refine rr_iadd (pc := 28) B dJ6_bitCount_0f7a4_28 ?_
  refine rr_ldcw (z := 252645135) (pc := 29) B dJ6_bitCount_0f7a4_29 cn_J_267 (by decide) ?_
  refine rr_iand (pc := 32) B dJ6_bitCount_0f7a4_32 ?_
  refine rr_istore0 (pc := 33) B dJ6_bitCount_0f7a4_33 ?_
  refine rr_iload0 (pc := 34) B dJ6_bitCount_0f7a4_34 ?_
  refine rr_iload0 (pc := 35) B dJ6_bitCount_0f7a4_35 ?_
  refine rr_bipush (z := 8) (pc := 36) B dJ6_bitCount_0f7a4_36 (by decide) ?_
  refine rr_iushr (pc := 38) B dJ6_bitCount_0f7a4_38 ?_
  refine rr_iadd (pc := 39) B dJ6_bitCount_0f7a4_39 ?_
  refine rr_istore0 (pc := 40) B dJ6_bitCount_0f7a4_40 ?_
  refine rr_iload0 (pc := 41) B dJ6_bitCount_0f7a4_41 ?_
  refine rr_iload0 (pc := 42) B dJ6_bitCount_0f7a4_42 ?_
  refine rr_bipush (z := 16) (pc := 43) B dJ6_bitCount_0f7a4_43 (by decide) ?_
  refine rr_iushr (pc := 45) B dJ6_bitCount_0f7a4_45 ?_
  refine rr_iadd (pc := 46) B dJ6_bitCount_0f7a4_46 ?_
  refine rr_istore0 (pc := 47) B dJ6_bitCount_0f7a4_47 ?_
  refine rr_iload0 (pc := 48) B dJ6_bitCount_0f7a4_48 ?_
  refine rr_bipush (z := 63) (pc := 49) B dJ6_bitCount_0f7a4_49 (by decide) ?_
  refine rr_iand (pc := 51) B dJ6_bitCount_0f7a4_51 ?_
  refine rr_ireturn (pc := 52) B Br dJ6_bitCount_0f7a4_52 ⟨congrArg (fun z => some (aI z)) ?_, ?_⟩
  · exact bcV_on H0
  · first | rfl | assumption
set_option maxHeartbeats 4000000 in
set_option maxRecDepth 100000 in
theorem ct_X9_kindBy (g : ax_G) (M : ax_M) (b : Int) (H0 : -1 ≤ b ∧ b ≤ 255) : CT g md_X9_kindBy 0 [aI b] M (pI (kV b) (M)) := by
  refine ct_intro 0 rfl rfl ?_
  intro X hg B Br
  subst hg
  show AW X 0 [some (aI b)] [] M
  refine rr_rg (fun G0 => ?_)
  refine rr_iload0 (pc := 0) B dX9_kindBy_0 ?_
  refine rr_bipush (z := 112) (pc := 1) B dX9_kindBy_1 (by decide) ?_
  refine rr_icmp_ne 10 (pc := 3) B dX9_kindBy_3 (by decide) (by omega) (fun b1 => ?_) (fun b1 => ?_)
  · refine rr_iload0 (pc := 10) B dX9_kindBy_10 ?_
    refine rr_bipush (z := 114) (pc := 11) B dX9_kindBy_11 (by decide) ?_
    refine rr_icmp_ne 20 (pc := 13) B dX9_kindBy_13 (by decide) (by omega) (fun b2 => ?_) (fun b2 => ?_)
    · refine rr_iload0 (pc := 20) B dX9_kindBy_20 ?_
      refine rr_bipush (z := 116) (pc := 21) B dX9_kindBy_21 (by decide) ?_
      refine rr_icmp_ne 30 (pc := 23) B dX9_kindBy_23 (by decide) (by omega) (fun b3 => ?_) (fun b3 => ?_)
      · refine rr_iload0 (pc := 30) B dX9_kindBy_30 ?_
        refine rr_bipush (z := 115) (pc := 31) B dX9_kindBy_31 (by decide) ?_
        refine rr_icmp_ne 40 (pc := 33) B dX9_kindBy_33 (by decide) (by omega) (fun b4 => ?_) (fun b4 => ?_)
        · refine rr_iconst (z := (-1)) (pc := 40) B dX9_kindBy_40 ?_
          refine rr_ireturn (pc := 41) B Br dX9_kindBy_41 ⟨congrArg (fun z => some (aI z)) ?_, ?_⟩
          · unfold kV; repeat (first | rw [if_pos (by omega)] | rw [if_neg (by omega)])
          · first | rfl | assumption
        · refine rr_iconst (z := 3) (pc := 36) B dX9_kindBy_36 ?_
          refine rr_goto 41 (pc := 37) B dX9_kindBy_37 (by decide) ?_
          refine rr_ireturn (pc := 41) B Br dX9_kindBy_41 ⟨congrArg (fun z => some (aI z)) ?_, ?_⟩
          · unfold kV; repeat (first | rw [if_pos (by omega)] | rw [if_neg (by omega)])
          · first | rfl | assumption
      · refine rr_iconst (z := 2) (pc := 26) B dX9_kindBy_26 ?_
        refine rr_goto 41 (pc := 27) B dX9_kindBy_27 (by decide) ?_
        refine rr_ireturn (pc := 41) B Br dX9_kindBy_41 ⟨congrArg (fun z => some (aI z)) ?_, ?_⟩
        · unfold kV; repeat (first | rw [if_pos (by omega)] | rw [if_neg (by omega)])
        · first | rfl | assumption
    · refine rr_iconst (z := 1) (pc := 16) B dX9_kindBy_16 ?_
      refine rr_goto 41 (pc := 17) B dX9_kindBy_17 (by decide) ?_
      refine rr_ireturn (pc := 41) B Br dX9_kindBy_41 ⟨congrArg (fun z => some (aI z)) ?_, ?_⟩
      · unfold kV; repeat (first | rw [if_pos (by omega)] | rw [if_neg (by omega)])
      · first | rfl | assumption
  · refine rr_iconst (z := 0) (pc := 6) B dX9_kindBy_6 ?_
    refine rr_goto 41 (pc := 7) B dX9_kindBy_7 (by decide) ?_
    refine rr_ireturn (pc := 41) B Br dX9_kindBy_41 ⟨congrArg (fun z => some (aI z)) ?_, ?_⟩
    · unfold kV; repeat (first | rw [if_pos (by omega)] | rw [if_neg (by omega)])
    · first | rfl | assumption
set_option maxHeartbeats 4000000 in
set_option maxRecDepth 100000 in
theorem ct_X8_kindOf (g : ax_G) (M : ax_M) (b : Int) (H0 : -1 ≤ b ∧ b ≤ 255) : CT g md_X8_kindOf 0 [aI b] M (pI (kV b) (M)) := by
  refine ct_intro 0 rfl rfl ?_
  intro X hg B Br
  subst hg
  show AW X 0 [some (aI b)] [] M
  refine rr_rg (fun G0 => ?_)
  refine rr_iload0 (pc := 0) B dX8_kindOf_0 ?_
  rcases (show b = 112 ∨ b = 113 ∨ b = 114 ∨ b = 115 ∨ b = 116 ∨ (b < 112 ∨ 116 < b) by omega) with b1 | b1 | b1 | b1 | b1 | b1
  · refine rr_tabAt 112 36 (pc := 1) B dX8_kindOf_1 b1 (by decide) rfl (by decide) ?_
    refine rr_iconst (z := 0) (pc := 36) B dX8_kindOf_36 ?_
    refine rr_ireturn (pc := 37) B Br dX8_kindOf_37 ⟨congrArg (fun z => some (aI z)) ?_, ?_⟩
    · unfold kV; repeat (first | rw [if_pos (by omega)] | rw [if_neg (by omega)])
    · first | rfl | assumption
  · refine rr_tabAt 113 44 (pc := 1) B dX8_kindOf_1 b1 (by decide) rfl (by decide) ?_
    refine rr_iconst (z := (-1)) (pc := 44) B dX8_kindOf_44 ?_
    refine rr_ireturn (pc := 45) B Br dX8_kindOf_45 ⟨congrArg (fun z => some (aI z)) ?_, ?_⟩
    · unfold kV; repeat (first | rw [if_pos (by omega)] | rw [if_neg (by omega)])
    · first | rfl | assumption
  · refine rr_tabAt 114 38 (pc := 1) B dX8_kindOf_1 b1 (by decide) rfl (by decide) ?_
    refine rr_iconst (z := 1) (pc := 38) B dX8_kindOf_38 ?_
    refine rr_ireturn (pc := 39) B Br dX8_kindOf_39 ⟨congrArg (fun z => some (aI z)) ?_, ?_⟩
    · unfold kV; repeat (first | rw [if_pos (by omega)] | rw [if_neg (by omega)])
    · first | rfl | assumption
  · refine rr_tabAt 115 42 (pc := 1) B dX8_kindOf_1 b1 (by decide) rfl (by decide) ?_
    refine rr_iconst (z := 3) (pc := 42) B dX8_kindOf_42 ?_
    refine rr_ireturn (pc := 43) B Br dX8_kindOf_43 ⟨congrArg (fun z => some (aI z)) ?_, ?_⟩
    · unfold kV; repeat (first | rw [if_pos (by omega)] | rw [if_neg (by omega)])
    · first | rfl | assumption
  · refine rr_tabAt 116 40 (pc := 1) B dX8_kindOf_1 b1 (by decide) rfl (by decide) ?_
    refine rr_iconst (z := 2) (pc := 40) B dX8_kindOf_40 ?_
    refine rr_ireturn (pc := 41) B Br dX8_kindOf_41 ⟨congrArg (fun z => some (aI z)) ?_, ?_⟩
    · unfold kV; repeat (first | rw [if_pos (by omega)] | rw [if_neg (by omega)])
    · first | rfl | assumption
  · refine rr_tabOut 44 (pc := 1) B dX8_kindOf_1 (by omega) b1 (by decide) ?_
    refine rr_iconst (z := (-1)) (pc := 44) B dX8_kindOf_44 ?_
    refine rr_ireturn (pc := 45) B Br dX8_kindOf_45 ⟨congrArg (fun z => some (aI z)) ?_, ?_⟩
    · unfold kV; repeat (first | rw [if_pos (by omega)] | rw [if_neg (by omega)])
    · first | rfl | assumption
set_option maxHeartbeats 4000000 in
set_option maxRecDepth 100000 in
theorem ct_X8_figureOf (g : ax_G) (M : ax_M) (b least most : Int) (H0 : -1 ≤ b ∧ b ≤ 255) (H1 : -2147483648 ≤ least ∧ least ≤ 2147483647 ∧ -2147483648 ≤ most ∧ most ≤ 2147483647) : CT g md_X8_figureOf 0 [aI b, aI least, aI most] M (pI (fgV b least most) (M)) := by
  refine ct_intro 1 rfl rfl ?_
  intro X hg B Br
  subst hg
  show AW X 0 [some (aI b), some (aI least), some (aI most), none] [] M
  refine rr_rg (fun G0 => ?_)
  refine rr_iload0 (pc := 0) B dX8_figureOf_0 ?_
  refine rr_bipush (z := 48) (pc := 1) B dX8_figureOf_1 (by decide) ?_
  refine rr_isub (pc := 3) B dX8_figureOf_3 ?_
  refine rr_istore3 (pc := 4) B dX8_figureOf_4 rfl ?_
  refine rr_iload3 (pc := 5) B dX8_figureOf_5 ?_
  refine rr_iload1 (pc := 6) B dX8_figureOf_6 ?_
  refine rr_icmp_lt 19 (pc := 7) B dX8_figureOf_7 (by decide) (by omega) (fun b1 => ?_) (fun b1 => ?_)
  · refine rr_iconst (z := (-1)) (pc := 19) B dX8_figureOf_19 ?_
    refine rr_ireturn (pc := 20) B Br dX8_figureOf_20 ⟨congrArg (fun z => some (aI z)) ?_, ?_⟩
    · unfold fgV; first | (rw [if_pos (by omega)]; done) | (rw [if_neg (by omega)]; done)
    · first | rfl | assumption
  · refine rr_iload3 (pc := 10) B dX8_figureOf_10 ?_
    refine rr_iload2 (pc := 11) B dX8_figureOf_11 ?_
    refine rr_icmp_gt 19 (pc := 12) B dX8_figureOf_12 (by decide) (by omega) (fun b2 => ?_) (fun b2 => ?_)
    · refine rr_iconst (z := (-1)) (pc := 19) B dX8_figureOf_19 ?_
      refine rr_ireturn (pc := 20) B Br dX8_figureOf_20 ⟨congrArg (fun z => some (aI z)) ?_, ?_⟩
      · unfold fgV; first | (rw [if_pos (by omega)]; done) | (rw [if_neg (by omega)]; done)
      · first | rfl | assumption
    · refine rr_iload3 (pc := 15) B dX8_figureOf_15 ?_
      refine rr_goto 20 (pc := 16) B dX8_figureOf_16 (by decide) ?_
      refine rr_ireturn (pc := 20) B Br dX8_figureOf_20 ⟨congrArg (fun z => some (aI z)) ?_, ?_⟩
      · unfold fgV; first | (rw [if_pos (by omega)]; done) | (rw [if_neg (by omega)]; done)
      · first | rfl | assumption
set_option maxHeartbeats 4000000 in
set_option maxRecDepth 100000 in
theorem ct_X9_isPerson (g : ax_G) (M : ax_M) (p : Int) (H0 : -2147483648 ≤ p ∧ p ≤ 2147483647) : CT g md_X9_isPerson 1 [aI p] M (pI (bi (decide (0 ≤ p ∧ p ≤ 7))) (M)) := by
  refine ct_intro 0 rfl rfl ?_
  intro X hg B Br
  subst hg
  show AW X 0 [some (aI p)] [] M
  refine rr_rg (fun G0 => ?_)
  refine rr_iload0 (pc := 0) B dX9_isPerson_0 ?_
  refine rr_iconst (z := 0) (pc := 1) B dX9_isPerson_1 ?_
  refine rr_bipush (z := 7) (pc := 2) B dX9_isPerson_2 (by decide) ?_
  refine rc_SI3 (pc := 4) B dX9_isPerson_4 st_X9_in lk_9_103 (ct_X9_in _ _ _ _ _  (by omega)) (Nat.le_of_ble_eq_true rfl) (Nat.le_of_ble_eq_true rfl) ?_
  refine rr_zreturn (pc := 7) B Br dX9_isPerson_7 (bi_01 _) ⟨congrArg (fun z => some (aI z)) ?_, ?_⟩
  · first | rfl | omega | (rw [decide_eq_true (by omega)]; rfl) | (rw [decide_eq_false (by omega)]; rfl) | (simp [*]; done)
  · first | rfl | assumption
set_option maxHeartbeats 4000000 in
set_option maxRecDepth 100000 in
theorem ct_X9_isHour (g : ax_G) (M : ax_M) (h : Int) (H0 : -2147483648 ≤ h ∧ h ≤ 2147483647) : CT g md_X9_isHour 1 [aI h] M (pI (bi (decide (0 ≤ h ∧ h ≤ 7))) (M)) := by
  refine ct_intro 0 rfl rfl ?_
  intro X hg B Br
  subst hg
  show AW X 0 [some (aI h)] [] M
  refine rr_rg (fun G0 => ?_)
  refine rr_iload0 (pc := 0) B dX9_isHour_0 ?_
  refine rr_iconst (z := 0) (pc := 1) B dX9_isHour_1 ?_
  refine rr_bipush (z := 7) (pc := 2) B dX9_isHour_2 (by decide) ?_
  refine rc_SI3 (pc := 4) B dX9_isHour_4 st_X9_in lk_9_103 (ct_X9_in _ _ _ _ _  (by omega)) (Nat.le_of_ble_eq_true rfl) (Nat.le_of_ble_eq_true rfl) ?_
  refine rr_zreturn (pc := 7) B Br dX9_isHour_7 (bi_01 _) ⟨congrArg (fun z => some (aI z)) ?_, ?_⟩
  · first | rfl | omega | (rw [decide_eq_true (by omega)]; rfl) | (rw [decide_eq_false (by omega)]; rfl) | (simp [*]; done)
  · first | rfl | assumption
set_option maxHeartbeats 4000000 in
set_option maxRecDepth 100000 in
theorem ct_X9_isSheet (g : ax_G) (M : ax_M) (s : Int) (H0 : -2147483648 ≤ s ∧ s ≤ 2147483647) : CT g md_X9_isSheet 1 [aI s] M (pI (bi (decide (0 ≤ s ∧ s ≤ 3))) (M)) := by
  refine ct_intro 0 rfl rfl ?_
  intro X hg B Br
  subst hg
  show AW X 0 [some (aI s)] [] M
  refine rr_rg (fun G0 => ?_)
  refine rr_iload0 (pc := 0) B dX9_isSheet_0 ?_
  refine rr_iconst (z := 0) (pc := 1) B dX9_isSheet_1 ?_
  refine rr_iconst (z := 3) (pc := 2) B dX9_isSheet_2 ?_
  refine rc_SI3 (pc := 3) B dX9_isSheet_3 st_X9_in lk_9_103 (ct_X9_in _ _ _ _ _  (by omega)) (Nat.le_of_ble_eq_true rfl) (Nat.le_of_ble_eq_true rfl) ?_
  refine rr_zreturn (pc := 6) B Br dX9_isSheet_6 (bi_01 _) ⟨congrArg (fun z => some (aI z)) ?_, ?_⟩
  · first | rfl | omega | (rw [decide_eq_true (by omega)]; rfl) | (rw [decide_eq_false (by omega)]; rfl) | (simp [*]; done)
  · first | rfl | assumption
set_option maxHeartbeats 4000000 in
set_option maxRecDepth 100000 in
theorem ct_X6_isNumber (g : ax_G) (M : ax_M) (s : Int) (H0 : -2147483648 ≤ s ∧ s ≤ 2147483647) : CT g md_X6_isNumber 1 [aI s] M (pI (bi (decide (0 ≤ s ∧ s ≤ 3))) (M)) := by
  refine ct_intro 0 rfl rfl ?_
  intro X hg B Br
  subst hg
  show AW X 0 [some (aI s)] [] M
  refine rr_rg (fun G0 => ?_)
  refine rr_iload0 (pc := 0) B dX6_isNumber_0 ?_
  refine rr_iconst (z := 3) (pc := 1) B dX6_isNumber_1 ?_
  refine rc_NI2 (pc := 2) B dX6_isNumber_2 st_X8_within lk_6_23 (ct_X8_within _ _ _ _  (by omega)) (Nat.le_of_ble_eq_true rfl) (Nat.le_of_ble_eq_true rfl) ?_
  refine rr_zreturn (pc := 5) B Br dX6_isNumber_5 (bi_01 _) ⟨congrArg (fun z => some (aI z)) ?_, ?_⟩
  · first | rfl | omega | (rw [decide_eq_true (by omega)]; rfl) | (rw [decide_eq_false (by omega)]; rfl) | (simp [*]; done)
  · first | rfl | assumption
set_option maxHeartbeats 4000000 in
set_option maxRecDepth 100000 in
theorem ct_X6_isForm (g : ax_G) (M : ax_M) (form : Int) (H0 : -2147483648 ≤ form ∧ form ≤ 2147483647) : CT g md_X6_isForm 1 [aI form] M (pI (bi (decide (0 ≤ form ∧ form ≤ 2))) (M)) := by
  refine ct_intro 0 rfl rfl ?_
  intro X hg B Br
  subst hg
  show AW X 0 [some (aI form)] [] M
  refine rr_rg (fun G0 => ?_)
  refine rr_iload0 (pc := 0) B dX6_isForm_0 ?_
  refine rr_iconst (z := 2) (pc := 1) B dX6_isForm_1 ?_
  refine rc_NI2 (pc := 2) B dX6_isForm_2 st_X8_within lk_6_23 (ct_X8_within _ _ _ _  (by omega)) (Nat.le_of_ble_eq_true rfl) (Nat.le_of_ble_eq_true rfl) ?_
  refine rr_zreturn (pc := 5) B Br dX6_isForm_5 (bi_01 _) ⟨congrArg (fun z => some (aI z)) ?_, ?_⟩
  · first | rfl | omega | (rw [decide_eq_true (by omega)]; rfl) | (rw [decide_eq_false (by omega)]; rfl) | (simp [*]; done)
  · first | rfl | assumption
