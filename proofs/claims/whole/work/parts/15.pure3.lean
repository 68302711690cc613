set_option maxHeartbeats 8000000 in
set_option maxRecDepth 100000 in
theorem ct_X9_hatsOf (g : ax_G) (M : ax_M) (what : Int) (V : ax_M) (H0 : AgM V M) (H1 : 0 ≤ what ∧ what ≤ 1) : CT g md_X9_hatsOf 1 [aR 9, aI what] M (pI (if what = 0 then on (htB V) else htB V) (M)) := by
  refine ct_intro 5 rfl rfl ?_
  intro X hg B Br
  subst hg
  show AW X 0 [some (aR 9), some (aI what), none, none, none, none, none] [] M
  refine rr_rg (fun G0 => ?_)
  have HV := H0
  have S10 : 0 ≤ V 9 26 ∧ V 9 26 ≤ 10 := by have := G0.at ob_9_26.2.1; rw [HV 9 26 (by simp [relM])] at this; omega
  have P10 : p2 (V 9 26) ≤ 1024 := by have := p2_le (a := V 9 26) (b := 10) (by omega); have e : p2 10 = 1024 := rfl; omega
  have P1 := p2_pos (V 9 26)
  have L : ∀ nn : Nat, (∀ (best set : Int) (w4 w5 w6 : Option ax_V), (0 ≤ set ∧ set ≤ p2 (V 9 26)) → (best = itI (htS V) (-1) set) → (-1 ≤ best ∧ best < 1024) → (best = -1 → set ≤ p2 (V 9 26) - 1) → (((p2 (V 9 26) - set) * 200 + 199).toNat) < nn → AW X 4 [some (aR 9), some (aI what), some (aI best), some (aI set), w4, w5, w6] [] M) ∧ (∀ (best set z a : Int) (w6 : Option ax_V), (0 ≤ set ∧ set < p2 (V 9 26)) → (best = itI (htS V) (-1) set) → (-1 ≤ best ∧ best < 1024) → (best = -1 ∨ on set < on best) → (0 ≤ a ∧ a ≤ V 9 26) → (z = bi (allB (fun a => allB (fun b => tb set a || tb set b || !arF V a b) a) a)) → (((p2 (V 9 26) - set) * 200 + 150 - 12 * a).toNat) < nn → AW X 36 [some (aR 9), some (aI what), some (aI best), some (aI set), some (aI z), some (aI a), w6] [] M) ∧ (∀ (best set z a b : Int), (0 ≤ set ∧ set < p2 (V 9 26)) → (best = itI (htS V) (-1) set) → (-1 ≤ best ∧ best < 1024) → (best = -1 ∨ on set < on best) → (0 ≤ a ∧ a < V 9 26) → (0 ≤ b ∧ b ≤ a) → (z = bi (allB (fun a => allB (fun b => tb set a || tb set b || !arF V a b) a) a && allB (fun b => tb set a || tb set b || !arF V a b) b)) → (((p2 (V 9 26) - set) * 200 + 149 - 12 * a - b).toNat) < nn → AW X 48 [some (aR 9), some (aI what), some (aI best), some (aI set), some (aI z), some (aI a), some (aI b)] [] M) ∧ True := by
    intro nn
    induction nn with
    | zero => exact ⟨by intros; omega, by intros; omega, by intros; omega, trivial⟩
    | succ nn ih =>
      refine ⟨?_, ?_, ?_, trivial⟩
      · intro best set w4 w5 w6 K0 K1 K2 K3 hm
        refine rr_iload3 (pc := 4) B dX9_hatsOf_4 ?_
        refine rr_iconst (z := 1) (pc := 5) B dX9_hatsOf_5 ?_
        refine rr_aload0 (pc := 6) B dX9_hatsOf_6 ?_
        refine rr_getIE (pc := 7) B dX9_hatsOf_7 fl_9_243 ob_9_26 (HV 9 _ (by simp [relM])) (fun b1 => ?_)
        refine rr_shl1 (pc := 10) B dX9_hatsOf_10 (by omega) (fun b2 => ?_)
        refine rr_icmp_ge 125 (pc := 11) B dX9_hatsOf_11 (by decide) (by omega) (fun b3 => ?_) (fun b3 => ?_)
        · refine rr_iload1 (pc := 125) B dX9_hatsOf_125 ?_
          refine rr_if_ne 136 (pc := 126) B dX9_hatsOf_126 (by decide) (by omega) (fun b4 => ?_) (fun b4 => ?_)
          · refine rr_iload2 (pc := 136) B dX9_hatsOf_136 ?_
            refine rr_ireturn (pc := 137) B Br dX9_hatsOf_137 ⟨congrArg (fun z => some (aI z)) ?_, ?_⟩
            · have e : best = htB V := by rw [K1, show set = p2 (V 9 26) by omega]; rfl
              rw [← e]; first | (rw [if_pos (by omega)]; done) | (rw [if_neg (by omega)]; done)
            · first | rfl | assumption
          · refine rr_iload2 (pc := 129) B dX9_hatsOf_129 ?_
            refine rc_SI1 (pc := 130) B dX9_hatsOf_130 st_X9_ones lk_9_164 (ct_X9_ones _ _ _  (by omega)) (Nat.le_of_ble_eq_true rfl) (Nat.le_of_ble_eq_true rfl) ?_
            refine rr_goto 137 (pc := 133) B dX9_hatsOf_133 (by decide) ?_
            refine rr_ireturn (pc := 137) B Br dX9_hatsOf_137 ⟨congrArg (fun z => some (aI z)) ?_, ?_⟩
            · have e : best = htB V := by rw [K1, show set = p2 (V 9 26) by omega]; rfl
              rw [← e]; first | (rw [if_pos (by omega)]; done) | (rw [if_neg (by omega)]; done)
            · first | rfl | assumption
        · refine rr_iload2 (pc := 14) B dX9_hatsOf_14 ?_
          refine rr_iconst (z := (-1)) (pc := 15) B dX9_hatsOf_15 ?_
          refine rr_icmp_eq 30 (pc := 16) B dX9_hatsOf_16 (by decide) (by omega) (fun b4 => ?_) (fun b4 => ?_)
          · refine rr_iconst (z := 1) (pc := 30) B dX9_hatsOf_30 ?_
            refine rr_istore4 (pc := 31) B dX9_hatsOf_31 rfl ?_
            refine rr_iconst (z := 0) (pc := 33) B dX9_hatsOf_33 ?_
            refine rr_istore5 (pc := 34) B dX9_hatsOf_34 rfl ?_
            refine ih.2.1 _ _ _ _ _ ?_ ?_ ?_ ?_ ?_ ?_ ?_
            · omega
            · assumption
            · omega
            · omega
            · omega
            · rfl
            · omega
          · refine rr_iload3 (pc := 19) B dX9_hatsOf_19 ?_
            refine rc_SI1 (pc := 20) B dX9_hatsOf_20 st_X9_ones lk_9_164 (ct_X9_ones _ _ _  (by omega)) (Nat.le_of_ble_eq_true rfl) (Nat.le_of_ble_eq_true rfl) ?_
            refine rr_iload2 (pc := 23) B dX9_hatsOf_23 ?_
            refine rc_SI1 (pc := 24) B dX9_hatsOf_24 st_X9_ones lk_9_164 (ct_X9_ones _ _ _  (by omega)) (Nat.le_of_ble_eq_true rfl) (Nat.le_of_ble_eq_true rfl) ?_
            refine rr_icmp_ge 119 (pc := 27) B dX9_hatsOf_27 (by decide) (by have := on_r set; have := on_r best; omega) (fun b5 => ?_) (fun b5 => ?_)
            · refine rr_iinc3 (z := 1) (pc := 119) B dX9_hatsOf_119 rfl ?_
              refine rr_goto 4 (pc := 122) B dX9_hatsOf_122 (by decide) ?_
              refine ih.1 _ _ _ _ _ ?_ ?_ ?_ ?_ ?_
              · omega
              · rw [itI_s _ _ (by omega), ← K1]; unfold htS
                first | (rw [if_neg (by omega)]; done) | (rw [if_pos K3]; unfold okH; rw [show V 9 26 = a by omega]; cases q : allB (fun a => allB (fun b => tb set a || tb set b || !arF V a b) a) a <;> simp_all [bi]; done)
              · omega
              · first
                  | omega
                  | intro q
                    rcases Int.lt_or_eq_of_le (show set ≤ p2 (V 9 26) - 1 by omega) with z1 | z1
                    · omega
                    · exfalso
                      have w : okH V set = true := okH_all S10.1 (fun x h0 h1 => by rw [z1, tb_all (by omega) h0]; exact decide_eq_true h1)
                      unfold okH at w
                      rw [show V 9 26 = a by omega] at w
                      rw [w] at K5
                      have z0 : z = 0 := by assumption
                      rw [K5] at z0
                      exact absurd z0 (by decide)
              · omega
            · refine rr_iconst (z := 1) (pc := 30) B dX9_hatsOf_30 ?_
              refine rr_istore4 (pc := 31) B dX9_hatsOf_31 rfl ?_
              refine rr_iconst (z := 0) (pc := 33) B dX9_hatsOf_33 ?_
              refine rr_istore5 (pc := 34) B dX9_hatsOf_34 rfl ?_
              refine ih.2.1 _ _ _ _ _ ?_ ?_ ?_ ?_ ?_ ?_ ?_
              · omega
              · assumption
              · omega
              · omega
              · omega
              · rfl
              · omega
      · intro best set z a w6 K0 K1 K2 K3 K4 K5 hm
        refine rr_iload5 (pc := 36) B dX9_hatsOf_36 ?_
        refine rr_aload0 (pc := 38) B dX9_hatsOf_38 ?_
        refine rr_getIE (pc := 39) B dX9_hatsOf_39 fl_9_243 ob_9_26 (HV 9 _ (by simp [relM])) (fun b1 => ?_)
        refine rr_icmp_ge 108 (pc := 42) B dX9_hatsOf_42 (by decide) (by omega) (fun b2 => ?_) (fun b2 => ?_)
        · refine rr_iload4 (pc := 108) B dX9_hatsOf_108 ?_
          refine rr_if_eq 117 (pc := 110) B dX9_hatsOf_110 (by decide) (by have Z1 := bi_r (allB (fun a => allB (fun b => tb set a || tb set b || !arF V a b) a) a); omega) (fun b3 => ?_) (fun b3 => ?_)
          · refine rr_iload2 (pc := 117) B dX9_hatsOf_117 ?_
            refine rr_istore2 (pc := 118) B dX9_hatsOf_118 rfl ?_
            refine rr_iinc3 (z := 1) (pc := 119) B dX9_hatsOf_119 rfl ?_
            refine rr_goto 4 (pc := 122) B dX9_hatsOf_122 (by decide) ?_
            refine ih.1 _ _ _ _ _ ?_ ?_ ?_ ?_ ?_
            · omega
            · rw [itI_s _ _ (by omega), ← K1]; unfold htS
              first | (rw [if_neg (by omega)]; done) | (rw [if_pos K3]; unfold okH; rw [show V 9 26 = a by omega]; cases q : allB (fun a => allB (fun b => tb set a || tb set b || !arF V a b) a) a <;> simp_all [bi]; done)
            · omega
            · first
                | omega
                | intro q
                  rcases Int.lt_or_eq_of_le (show set ≤ p2 (V 9 26) - 1 by omega) with z1 | z1
                  · omega
                  · exfalso
                    have w : okH V set = true := okH_all S10.1 (fun x h0 h1 => by rw [z1, tb_all (by omega) h0]; exact decide_eq_true h1)
                    unfold okH at w
                    rw [show V 9 26 = a by omega] at w
                    rw [w] at K5
                    have z0 : z = 0 := by assumption
                    rw [K5] at z0
                    exact absurd z0 (by decide)
            · omega
          · refine rr_iload3 (pc := 113) B dX9_hatsOf_113 ?_
            refine rr_goto 118 (pc := 114) B dX9_hatsOf_114 (by decide) ?_
            refine rr_istore2 (pc := 118) B dX9_hatsOf_118 rfl ?_
            refine rr_iinc3 (z := 1) (pc := 119) B dX9_hatsOf_119 rfl ?_
            refine rr_goto 4 (pc := 122) B dX9_hatsOf_122 (by decide) ?_
            refine ih.1 _ _ _ _ _ ?_ ?_ ?_ ?_ ?_
            · omega
            · rw [itI_s _ _ (by omega), ← K1]; unfold htS
              first | (rw [if_neg (by omega)]; done) | (rw [if_pos K3]; unfold okH; rw [show V 9 26 = a by omega]; cases q : allB (fun a => allB (fun b => tb set a || tb set b || !arF V a b) a) a <;> simp_all [bi]; done)
            · omega
            · first
                | omega
                | intro q
                  rcases Int.lt_or_eq_of_le (show set ≤ p2 (V 9 26) - 1 by omega) with z1 | z1
                  · omega
                  · exfalso
                    have w : okH V set = true := okH_all S10.1 (fun x h0 h1 => by rw [z1, tb_all (by omega) h0]; exact decide_eq_true h1)
                    unfold okH at w
                    rw [show V 9 26 = a by omega] at w
                    rw [w] at K5
                    have z0 : z = 0 := by assumption
                    rw [K5] at z0
                    exact absurd z0 (by decide)
            · omega
        · refine rr_iconst (z := 0) (pc := 45) B dX9_hatsOf_45 ?_
          refine rr_istore6 (pc := 46) B dX9_hatsOf_46 rfl ?_
          refine ih.2.2.1 _ _ _ _ _ ?_ ?_ ?_ ?_ ?_ ?_ ?_ ?_
          · omega
          · assumption
          · omega
          · assumption
          · omega
          · omega
          · rw [K5, show allB (fun b => tb set a || tb set b || !arF V a b) 0 = true from rfl, Bool.and_true]
          · omega
      · intro best set z a b K0 K1 K2 K3 K4 K5 K6 hm
        have Z1 := bi_r (allB (fun a => allB (fun b => tb set a || tb set b || !arF V a b) a) a && allB (fun b => tb set a || tb set b || !arF V a b) b)
        refine rr_iload6 (pc := 48) B dX9_hatsOf_48 ?_
        refine rr_iload5 (pc := 50) B dX9_hatsOf_50 ?_
        refine rr_icmp_ge 102 (pc := 52) B dX9_hatsOf_52 (by decide) (by omega) (fun b1 => ?_) (fun b1 => ?_)
        · refine rr_iinc5 (z := 1) (pc := 102) B dX9_hatsOf_102 rfl ?_
          refine rr_goto 36 (pc := 105) B dX9_hatsOf_105 (by decide) ?_
          refine ih.2.1 _ _ _ _ _ ?_ ?_ ?_ ?_ ?_ ?_ ?_
          · omega
          · assumption
          · omega
          · assumption
          · omega
          · rw [allB_s (by omega), K6, show b = a by omega]
          · omega
        · refine rr_iload4 (pc := 55) B dX9_hatsOf_55 ?_
          refine rr_if_eq 93 (pc := 57) B dX9_hatsOf_57 (by decide) (by omega) (fun b2 => ?_) (fun b2 => ?_)
          · refine rr_iconst (z := 0) (pc := 93) B dX9_hatsOf_93 ?_
            refine rr_istore4 (pc := 94) B dX9_hatsOf_94 rfl ?_
            refine rr_iinc6 (z := 1) (pc := 96) B dX9_hatsOf_96 rfl ?_
            refine rr_goto 48 (pc := 99) B dX9_hatsOf_99 (by decide) ?_
            refine ih.2.2.1 _ _ _ _ _ ?_ ?_ ?_ ?_ ?_ ?_ ?_ ?_
            · omega
            · assumption
            · omega
            · assumption
            · omega
            · omega
            · rw [allB_s (by omega), ← Bool.and_assoc]
              have K6 := K6
              generalize (allB (fun a => allB (fun b => tb set a || tb set b || !arF V a b) a) a && allB (fun b => tb set a || tb set b || !arF V a b) b) = y at K6 ⊢
              cases y <;> simp_all [bi]
            · omega
          · refine rr_iload3 (pc := 60) B dX9_hatsOf_60 ?_
            refine rr_iload5 (pc := 61) B dX9_hatsOf_61 ?_
            refine rc_SI2 (pc := 63) B dX9_hatsOf_63 st_X9_isIn lk_9_119 (ct_X9_isIn _ _ _ _  (by omega) (by omega)) (Nat.le_of_ble_eq_true rfl) (Nat.le_of_ble_eq_true rfl) ?_
            refine rr_if_neB 89 (pc := 66) B dX9_hatsOf_66 (by decide) (fun b3 => ?_) (fun b3 => ?_)
            · refine rr_iconst (z := 1) (pc := 89) B dX9_hatsOf_89 ?_
              refine rr_goto 94 (pc := 90) B dX9_hatsOf_90 (by decide) ?_
              refine rr_istore4 (pc := 94) B dX9_hatsOf_94 rfl ?_
              refine rr_iinc6 (z := 1) (pc := 96) B dX9_hatsOf_96 rfl ?_
              refine rr_goto 48 (pc := 99) B dX9_hatsOf_99 (by decide) ?_
              refine ih.2.2.1 _ _ _ _ _ ?_ ?_ ?_ ?_ ?_ ?_ ?_ ?_
              · omega
              · assumption
              · omega
              · assumption
              · omega
              · omega
              · rw [allB_s (by omega), ← Bool.and_assoc]
                have K6 := K6
                generalize (allB (fun a => allB (fun b => tb set a || tb set b || !arF V a b) a) a && allB (fun b => tb set a || tb set b || !arF V a b) b) = y at K6 ⊢
                cases y <;> simp_all [bi]
              · omega
            · refine rr_iload3 (pc := 69) B dX9_hatsOf_69 ?_
              refine rr_iload6 (pc := 70) B dX9_hatsOf_70 ?_
              refine rc_SI2 (pc := 72) B dX9_hatsOf_72 st_X9_isIn lk_9_119 (ct_X9_isIn _ _ _ _  (by omega) (by omega)) (Nat.le_of_ble_eq_true rfl) (Nat.le_of_ble_eq_true rfl) ?_
              refine rr_if_neB 89 (pc := 75) B dX9_hatsOf_75 (by decide) (fun b4 => ?_) (fun b4 => ?_)
              · refine rr_iconst (z := 1) (pc := 89) B dX9_hatsOf_89 ?_
                refine rr_goto 94 (pc := 90) B dX9_hatsOf_90 (by decide) ?_
                refine rr_istore4 (pc := 94) B dX9_hatsOf_94 rfl ?_
                refine rr_iinc6 (z := 1) (pc := 96) B dX9_hatsOf_96 rfl ?_
                refine rr_goto 48 (pc := 99) B dX9_hatsOf_99 (by decide) ?_
                refine ih.2.2.1 _ _ _ _ _ ?_ ?_ ?_ ?_ ?_ ?_ ?_ ?_
                · omega
                · assumption
                · omega
                · assumption
                · omega
                · omega
                · rw [allB_s (by omega), ← Bool.and_assoc]
                  have K6 := K6
                  generalize (allB (fun a => allB (fun b => tb set a || tb set b || !arF V a b) a) a && allB (fun b => tb set a || tb set b || !arF V a b) b) = y at K6 ⊢
                  cases y <;> simp_all [bi]
                · omega
              · refine rr_aload0 (pc := 78) B dX9_hatsOf_78 ?_
                refine rr_iload5 (pc := 79) B dX9_hatsOf_79 ?_
                refine rr_iload6 (pc := 81) B dX9_hatsOf_81 ?_
                refine rc_VI2 (pc := 83) B dX9_hatsOf_83 vm_X9_areFalse lk_9_249 so_9 rfl (ct_X9_areFalse _ _ _ _ _ (by omega) (by omega) (by omega)) (Nat.le_of_ble_eq_true rfl) (Nat.le_of_ble_eq_true rfl) ?_
                refine rr_if_neB 93 (pc := 86) B dX9_hatsOf_86 (by decide) (fun b5 => ?_) (fun b5 => ?_)
                · refine rr_iconst (z := 0) (pc := 93) B dX9_hatsOf_93 ?_
                  refine rr_istore4 (pc := 94) B dX9_hatsOf_94 rfl ?_
                  refine rr_iinc6 (z := 1) (pc := 96) B dX9_hatsOf_96 rfl ?_
                  refine rr_goto 48 (pc := 99) B dX9_hatsOf_99 (by decide) ?_
                  refine ih.2.2.1 _ _ _ _ _ ?_ ?_ ?_ ?_ ?_ ?_ ?_ ?_
                  · omega
                  · assumption
                  · omega
                  · assumption
                  · omega
                  · omega
                  · rw [allB_s (by omega), ← Bool.and_assoc]
                    have K6 := K6
                    generalize (allB (fun a => allB (fun b => tb set a || tb set b || !arF V a b) a) a && allB (fun b => tb set a || tb set b || !arF V a b) b) = y at K6 ⊢
                    cases y <;> simp_all [bi]
                  · omega
                · refine rr_iconst (z := 1) (pc := 89) B dX9_hatsOf_89 ?_
                  refine rr_goto 94 (pc := 90) B dX9_hatsOf_90 (by decide) ?_
                  refine rr_istore4 (pc := 94) B dX9_hatsOf_94 rfl ?_
                  refine rr_iinc6 (z := 1) (pc := 96) B dX9_hatsOf_96 rfl ?_
                  refine rr_goto 48 (pc := 99) B dX9_hatsOf_99 (by decide) ?_
                  refine ih.2.2.1 _ _ _ _ _ ?_ ?_ ?_ ?_ ?_ ?_ ?_ ?_
                  · omega
                  · assumption
                  · omega
                  · assumption
                  · omega
                  · omega
                  · rw [allB_s (by omega), ← Bool.and_assoc]
                    have K6 := K6
                    generalize (allB (fun a => allB (fun b => tb set a || tb set b || !arF V a b) a) a && allB (fun b => tb set a || tb set b || !arF V a b) b) = y at K6 ⊢
                    cases y <;> simp_all [bi]
                  · omega
  refine rr_iconst (z := (-1)) (pc := 0) B dX9_hatsOf_0 ?_
  refine rr_istore2 (pc := 1) B dX9_hatsOf_1 rfl ?_
  refine rr_iconst (z := 0) (pc := 2) B dX9_hatsOf_2 ?_
  refine rr_istore3 (pc := 3) B dX9_hatsOf_3 rfl ?_
  refine (L _).1 _ _ _ _ _ ?_ ?_ ?_ ?_ (Nat.lt_succ_self _)
  · omega
  · rfl
  · omega
  · omega
set_option maxHeartbeats 4000000 in
set_option maxRecDepth 100000 in
theorem ct_X9_planCostOf (g : ax_G) (M : ax_M) (s : Int) (V : ax_M) (H0 : AgM V M) (H1 : 0 ≤ s ∧ s ≤ 3) : CT g md_X9_planCostOf 4 [aR 9, aI s] M (pI (pcV V s) (M)) := by
  refine ct_intro 4 rfl rfl ?_
  intro X hg B Br
  subst hg
  show AW X 0 [some (aR 9), some (aI s), none, none, none, none] [] M
  refine rr_rg (fun G0 => ?_)
  have HV := H0
  have D8 : V 9 2 ≤ 8 := by have := G0.at ob_9_2.2.1; rw [HV 9 2 (Or.inl rfl)] at this; omega
  have D0 : 0 ≤ V 9 2 := by have := G0.at ob_9_2.2.1; rw [HV 9 2 (Or.inl rfl)] at this; omega
  have P99 : ∀ p, 0 ≤ p → p < 8 → 0 ≤ V 57 p ∧ V 57 p ≤ 99 := fun p q1 q2 => by have := G0.at (sa_57.2.2 p); rw [HV 57 p trivial] at this; exact this
  have R99 : 0 ≤ V 60 0 ∧ V 60 0 ≤ 999 := by have := G0.at (sa_60.2.2 0); rw [HV 60 0 trivial] at this; exact this
  have CT1 : ∀ st hh, 0 ≤ cT V st hh ∧ (cT V st hh ≤ 10000 ∨ cT V st hh = 1000000) := fun st hh => cT_r ⟨D0, D8⟩ P99 R99
  have L : ∀ nn : Nat, (∀ (d : Int), (0 ≤ d ∧ d ≤ V 9 2) → (∀ j, 0 ≤ j → j < d → (-1 ≤ V 73 (60 * s + j) ∧ V 73 (60 * s + j) ≤ 7)) → ((20000 - d).toNat) < nn → AW X 4 [some (aR 9), some (aI s), some (aI 0), some (aI d), none, none] [] M) ∧ (∀ (c h : Int) (w4 w5 : Option ax_V), (0 ≤ h ∧ h ≤ 8) → (inP V s = true) → (∀ j, 0 ≤ j → j < h → cT V (hsP V s j (V 9 2)) j < 1000000) → (c = csP V s h) → (0 ≤ c ∧ c ≤ 10000 * h) → ((1000 * (8 - h) + 900).toNat) < nn → AW X 43 [some (aR 9), some (aI s), some (aI c), some (aI h), w4, w5] [] M) ∧ (∀ (c h b d : Int), (0 ≤ h ∧ h < 8) → (inP V s = true) → (∀ j, 0 ≤ j → j < h → cT V (hsP V s j (V 9 2)) j < 1000000) → (c = csP V s h) → (0 ≤ c ∧ c ≤ 10000 * h) → (0 ≤ d ∧ d ≤ V 9 2) → (b = hsP V s h d) → (0 ≤ b ∧ b < 256) → ((1000 * (8 - h) + 100 - d).toNat) < nn → AW X 55 [some (aR 9), some (aI s), some (aI c), some (aI h), some (aI b), some (aI d)] [] M) ∧ True := by
    intro nn
    induction nn with
    | zero => exact ⟨by intros; omega, by intros; omega, by intros; omega, trivial⟩
    | succ nn ih =>
      refine ⟨?_, ?_, ?_, trivial⟩
      · intro d K0 K1 hm
        refine rr_iload3 (pc := 4) B dX9_planCostOf_4 ?_
        refine rr_aload0 (pc := 5) B dX9_planCostOf_5 ?_
        refine rr_getIE (pc := 6) B dX9_planCostOf_6 fl_9_107 ob_9_2 (HV 9 _ (Or.inl rfl)) (fun b1 => ?_)
        refine rr_icmp_ge 41 (pc := 9) B dX9_planCostOf_9 (by decide) (by omega) (fun b2 => ?_) (fun b2 => ?_)
        · refine rr_iconst (z := 0) (pc := 41) B dX9_planCostOf_41 ?_
          refine rr_istore3 (pc := 42) B dX9_planCostOf_42 rfl ?_
          refine ih.2.1 _ _ _ _ ?_ ?_ ?_ ?_ ?_ ?_
          · omega
          · exact allB_t (by omega) (fun j h0 h1 => by rw [decide_eq_true (K1 j h0 (by omega))])
          · intro j h0 h1; omega
          · rfl
          · omega
          · omega
        · refine rr_aload0 (pc := 12) B dX9_planCostOf_12 ?_
          refine rr_getR (pc := 13) B dX9_planCostOf_13 fl_9_95 or_9_36 ?_
          refine rr_bipush (z := 60) (pc := 16) B dX9_planCostOf_16 (by decide) ?_
          refine rr_iload1 (pc := 18) B dX9_planCostOf_18 ?_
          refine rr_imul (pc := 19) B dX9_planCostOf_19 ?_
          refine rr_iload3 (pc := 20) B dX9_planCostOf_20 ?_
          refine rr_iadd (pc := 21) B dX9_planCostOf_21 ?_
          refine rr_ialoadE (pc := 22) B dX9_planCostOf_22 sa_73 (by omega) (HV 73 _ trivial) (fun b3 => ?_)
          refine rr_iconst (z := (-1)) (pc := 23) B dX9_planCostOf_23 ?_
          refine rr_bipush (z := 7) (pc := 24) B dX9_planCostOf_24 (by decide) ?_
          refine rc_SI3 (pc := 26) B dX9_planCostOf_26 st_X9_in lk_9_103 (ct_X9_in _ _ _ _ _  (by omega)) (Nat.le_of_ble_eq_true rfl) (Nat.le_of_ble_eq_true rfl) ?_
          refine rr_if_neB 35 (pc := 29) B dX9_planCostOf_29 (by decide) (fun b4 => ?_) (fun b4 => ?_)
          · replace b4 := of_decide_eq_true b4
            refine rr_iinc3 (z := 1) (pc := 35) B dX9_planCostOf_35 rfl ?_
            refine rr_goto 4 (pc := 38) B dX9_planCostOf_38 (by decide) ?_
            refine ih.1 _ ?_ ?_ ?_
            · omega
            · intro j h0 h1
              rcases Int.lt_or_eq_of_le (show j ≤ d by omega) with q | q
              · exact K1 j h0 q
              · rw [q]; assumption
            · omega
          · replace b4 := of_decide_eq_false b4
            refine rr_bipush (z := (-3)) (pc := 32) B dX9_planCostOf_32 (by decide) ?_
            refine rr_ireturn (pc := 34) B Br dX9_planCostOf_34 ⟨congrArg (fun z => some (aI z)) ?_, ?_⟩
            · unfold pcV okP; rw [show inP V s = false from allB_f d (by omega) (by omega) (decide_eq_false (by omega))]; rfl
            · first | rfl | assumption
      · intro c h w4 w5 K0 K1 K2 K3 K4 hm
        refine rr_iload3 (pc := 43) B dX9_planCostOf_43 ?_
        refine rr_bipush (z := 8) (pc := 44) B dX9_planCostOf_44 (by decide) ?_
        refine rr_icmp_ge 129 (pc := 46) B dX9_planCostOf_46 (by decide) (by omega) (fun b1 => ?_) (fun b1 => ?_)
        · refine rr_iload2 (pc := 129) B dX9_planCostOf_129 ?_
          refine rr_ireturn (pc := 130) B Br dX9_planCostOf_130 ⟨congrArg (fun z => some (aI z)) ?_, ?_⟩
          · unfold pcV okP; rw [K1, show allB (fun h => decide (cT V (hsP V s h (V 9 2)) h < 1000000)) 8 = true from allB_t (by decide) (fun j h0 h1 => decide_eq_true (K2 j h0 (by omega)))]; rw [if_pos (show (true && true) = true from rfl), K3, show h = 8 by omega]
          · first | rfl | assumption
        · refine rr_iconst (z := 0) (pc := 49) B dX9_planCostOf_49 ?_
          refine rr_istore4 (pc := 50) B dX9_planCostOf_50 rfl ?_
          refine rr_iconst (z := 0) (pc := 52) B dX9_planCostOf_52 ?_
          refine rr_istore5 (pc := 53) B dX9_planCostOf_53 rfl ?_
          refine ih.2.2.1 _ _ _ _ ?_ ?_ ?_ ?_ ?_ ?_ ?_ ?_ ?_
          · omega
          · assumption
          · assumption
          · assumption
          · assumption
          · omega
          · rfl
          · omega
          · omega
      · intro c h b d K0 K1 K2 K3 K4 K5 K6 K7 hm
        refine rr_iload5 (pc := 55) B dX9_planCostOf_55 ?_
        refine rr_aload0 (pc := 57) B dX9_planCostOf_57 ?_
        refine rr_getIE (pc := 58) B dX9_planCostOf_58 fl_9_107 ob_9_2 (HV 9 _ (Or.inl rfl)) (fun b1 => ?_)
        refine rr_icmp_ge 99 (pc := 61) B dX9_planCostOf_61 (by decide) (by omega) (fun b2 => ?_) (fun b2 => ?_)
        · refine rr_aload0 (pc := 99) B dX9_planCostOf_99 ?_
          refine rr_iload4 (pc := 100) B dX9_planCostOf_100 ?_
          refine rr_iload3 (pc := 102) B dX9_planCostOf_102 ?_
          refine rc_VI2 (pc := 103) B dX9_planCostOf_103 vm_X9_costTogether lk_9_198 so_9 rfl (ct_X9_costTogether _ _ _ _ _ (by omega) (by omega) (by omega)) (Nat.le_of_ble_eq_true rfl) (Nat.le_of_ble_eq_true rfl) ?_
          refine rr_istore5 (pc := 106) B dX9_planCostOf_106 rfl ?_
          have E1 : b = hsP V s h (V 9 2) := by rw [K6, show d = V 9 2 by omega]
          refine rr_iload5 (pc := 108) B dX9_planCostOf_108 ?_
          refine rr_ldc (z := 1000000) (pc := 110) B dX9_planCostOf_110 cn_9_188 (by decide) ?_
          refine rr_icmp_lt 118 (pc := 112) B dX9_planCostOf_112 (by decide) (by have := CT1 b h; omega) (fun b3 => ?_) (fun b3 => ?_)
          · refine rr_iload2 (pc := 118) B dX9_planCostOf_118 ?_
            refine rr_iload5 (pc := 119) B dX9_planCostOf_119 ?_
            refine rr_iadd (pc := 121) B dX9_planCostOf_121 ?_
            refine rr_istore2 (pc := 122) B dX9_planCostOf_122 rfl ?_
            refine rr_iinc3 (z := 1) (pc := 123) B dX9_planCostOf_123 rfl ?_
            refine rr_goto 43 (pc := 126) B dX9_planCostOf_126 (by decide) ?_
            refine ih.2.1 _ _ _ _ ?_ ?_ ?_ ?_ ?_ ?_
            · omega
            · assumption
            · intro j h0 h1
              rcases Int.lt_or_eq_of_le (show j ≤ h by omega) with q | q
              · exact K2 j h0 q
              · rw [q, ← E1]; omega
            · unfold csP; rw [itI_s _ _ (by omega)]; unfold csP at K3; rw [← K3, ← E1]
            · have := CT1 b h; omega
            · omega
          · refine rr_bipush (z := (-3)) (pc := 115) B dX9_planCostOf_115 (by decide) ?_
            refine rr_ireturn (pc := 117) B Br dX9_planCostOf_117 ⟨congrArg (fun z => some (aI z)) ?_, ?_⟩
            · unfold pcV okP; rw [show allB (fun h => decide (cT V (hsP V s h (V 9 2)) h < 1000000)) 8 = false from allB_f h (by omega) (by omega) (decide_eq_false (by rw [← E1]; omega)), Bool.and_false]; rfl
            · first | rfl | assumption
        · refine rr_iload4 (pc := 64) B dX9_planCostOf_64 ?_
          refine rr_aload0 (pc := 66) B dX9_planCostOf_66 ?_
          refine rr_getR (pc := 67) B dX9_planCostOf_67 fl_9_95 or_9_36 ?_
          refine rr_bipush (z := 60) (pc := 70) B dX9_planCostOf_70 (by decide) ?_
          refine rr_iload1 (pc := 72) B dX9_planCostOf_72 ?_
          refine rr_imul (pc := 73) B dX9_planCostOf_73 ?_
          refine rr_iload5 (pc := 74) B dX9_planCostOf_74 ?_
          refine rr_iadd (pc := 76) B dX9_planCostOf_76 ?_
          refine rr_ialoadE (pc := 77) B dX9_planCostOf_77 sa_73 (by omega) (HV 73 _ trivial) (fun b3 => ?_)
          refine rr_iload3 (pc := 78) B dX9_planCostOf_78 ?_
          refine rr_icmp_ne 89 (pc := 79) B dX9_planCostOf_79 (by decide) (by omega) (fun b4 => ?_) (fun b4 => ?_)
          · refine rr_iconst (z := 0) (pc := 89) B dX9_planCostOf_89 ?_
            refine rr_orN 8 (pc := 90) B dX9_planCostOf_90 (by decide) (by first | omega | (have q2 := p2_le (a := d) (b := 7) (by omega); have q3 : p2 7 = 128 := rfl; omega)) (fun b5 => ?_)
            refine rr_istore4 (pc := 91) B dX9_planCostOf_91 rfl ?_
            refine rr_iinc5 (z := 1) (pc := 93) B dX9_planCostOf_93 rfl ?_
            refine rr_goto 55 (pc := 96) B dX9_planCostOf_96 (by decide) ?_
            refine ih.2.2.1 _ _ _ _ ?_ ?_ ?_ ?_ ?_ ?_ ?_ ?_ ?_
            · omega
            · assumption
            · assumption
            · assumption
            · assumption
            · omega
            · unfold hsP; rw [itI_s _ _ (by omega)]; unfold hsP at K6; rw [← K6]; first | (rw [if_pos (by omega)]; done) | (rw [if_neg (by omega)]; done)
            · simp only [show ((2 ^ 8 : Nat) : Int) = 256 from rfl] at *; omega
            · omega
          · refine rr_iconst (z := 1) (pc := 82) B dX9_planCostOf_82 ?_
            refine rr_iload5 (pc := 83) B dX9_planCostOf_83 ?_
            refine rr_shl1 (pc := 85) B dX9_planCostOf_85 (by omega) (fun b5 => ?_)
            refine rr_goto 90 (pc := 86) B dX9_planCostOf_86 (by decide) ?_
            refine rr_orN 8 (pc := 90) B dX9_planCostOf_90 (by decide) (by first | omega | (have q2 := p2_le (a := d) (b := 7) (by omega); have q3 : p2 7 = 128 := rfl; omega)) (fun b6 => ?_)
            refine rr_istore4 (pc := 91) B dX9_planCostOf_91 rfl ?_
            refine rr_iinc5 (z := 1) (pc := 93) B dX9_planCostOf_93 rfl ?_
            refine rr_goto 55 (pc := 96) B dX9_planCostOf_96 (by decide) ?_
            refine ih.2.2.1 _ _ _ _ ?_ ?_ ?_ ?_ ?_ ?_ ?_ ?_ ?_
            · omega
            · assumption
            · assumption
            · assumption
            · assumption
            · omega
            · unfold hsP; rw [itI_s _ _ (by omega)]; unfold hsP at K6; rw [← K6]; first | (rw [if_pos (by omega)]; done) | (rw [if_neg (by omega)]; done)
            · simp only [show ((2 ^ 8 : Nat) : Int) = 256 from rfl] at *; omega
            · omega
  refine rr_iconst (z := 0) (pc := 0) B dX9_planCostOf_0 ?_
  refine rr_istore2 (pc := 1) B dX9_planCostOf_1 rfl ?_
  refine rr_iconst (z := 0) (pc := 2) B dX9_planCostOf_2 ?_
  refine rr_istore3 (pc := 3) B dX9_planCostOf_3 rfl ?_
  refine (L _).1 _ ?_ ?_ (Nat.lt_succ_self _)
  · omega
  · intro j h0 h1; omega
