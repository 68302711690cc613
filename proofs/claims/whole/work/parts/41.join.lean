set_option maxHeartbeats 16000000 in
set_option maxRecDepth 100000 in
theorem ct_X4_joinWithRest (g : ax_G) (M : ax_M) (set own : Int) (H0 : 0 ≤ set ∧ set < 256) (H1 : nD set (M 4 7) = 0) (H2 : 0 ≤ own ∧ own ≤ 2000000000000) : CT g md_X4_joinWithRest 0 [aR 4, aI set, aL own] M (pVR (fun M2 => (∀ u, 0 ≤ u → u < 256 → M2 27 u = if (nA u set = set ∧ nD u (M 4 7) = 0) ∧ M 28 (nD u set) < 1152921504606846976 ∧ own + M 28 (nD u set) < M 27 u then own + M 28 (nD u set) else M 27 u) ∧ frm (exK 27) M M2)) := by
  refine ct_intro 3 rfl rfl ?_
  intro X hg B Br
  subst hg
  show AW X 0 [some (aR 4), some (aI set), some (aL own), none, none, none, none] [] M
  refine rr_rg (fun G0 => ?_)
  have A8 := G0.at ob_4_7.2.1
  have OS : 0 ≤ nD (M 4 7) set ∧ nD (M 4 7) set ≤ M 4 7 := nD_le _ _ A8.1
  have L : ∀ nn : Nat, (∀ (M1 : ax_M) (rest left : Int), ((0 ≤ rest ∧ rest < 256) ∧ rest + 1 ≤ left ∧ left ≤ 256) → (frm (exK 27) M M1) → (sub rest (nD (M 4 7) set)) → (∀ u, 0 ≤ u → u < 256 → M1 27 u = if ((nA u set = set ∧ nD u (M 4 7) = 0) ∧ rest < nD u set) ∧ M 28 (nD u set) < 1152921504606846976 ∧ own + M 28 (nD u set) < M 27 u then own + M 28 (nD u set) else M 27 u) → ((2 * left).toNat) < nn → AW X 19 [some (aR 4), some (aI set), some (aL own), none, some (aI (nD (M 4 7) set)), some (aI rest), some (aI left)] [] M1) ∧ (∀ (M1 : ax_M) (rest left : Int), ((0 ≤ rest ∧ rest < 256) ∧ rest + 1 ≤ left ∧ left ≤ 256) → (frm (exK 27) M M1) → (sub rest (nD (M 4 7) set)) → (∀ u, 0 ≤ u → u < 256 → M1 27 u = if ((nA u set = set ∧ nD u (M 4 7) = 0) ∧ rest - 1 < nD u set) ∧ M 28 (nD u set) < 1152921504606846976 ∧ own + M 28 (nD u set) < M 27 u then own + M 28 (nD u set) else M 27 u) → ((2 * left - 1).toNat) < nn → AW X 78 [some (aR 4), some (aI set), some (aL own), none, some (aI (nD (M 4 7) set)), some (aI rest), some (aI left)] [] M1) ∧ True := by
    intro nn
    induction nn with
    | zero => exact ⟨by intros; omega, by intros; omega, trivial⟩
    | succ nn ih =>
      refine ⟨?_, ?_, trivial⟩
      · intro M1 rest left K0 K1 K2 K3 hm
        refine rr_rg (fun G1 => ?_)
        have J2 := jl2 H0.1 K0.1.1 K2 H1
        have UO := nO_lt (a := set) (b := rest) 8 ⟨H0.1, by show _ < (256 : Int); omega⟩ ⟨K0.1.1, by show _ < (256 : Int); omega⟩
        have U27 : M1 27 (nO set rest) = M 27 (nO set rest) := by rw [K3 _ UO.1 (by have := UO.2; show _ < (256 : Int); exact this), if_neg]; rintro ⟨⟨-, q⟩, -⟩; rw [J2.1] at q; omega
        refine rr_iload6 (pc := 19) B dX4_joinWithRest_19 ?_
        refine rr_if_le 99 (pc := 21) B dX4_joinWithRest_21 (by decide) (by omega) (fun b1 => absurd b1 (by omega)) (fun b1 => ?_)
        refine rr_aload0 (pc := 24) B dX4_joinWithRest_24 ?_
        refine rr_getR (pc := 25) B dX4_joinWithRest_25 fl_4_26 or_4_5 ?_
        refine rr_iload5 (pc := 28) B dX4_joinWithRest_28 ?_
        refine rr_laloadE (pc := 30) B dX4_joinWithRest_30 sa_28 (by omega) (K1 28 _ rfl) (fun b2 => ?_)
        refine rr_ldc2 (z := 1152921504606846976) (pc := 31) B dX4_joinWithRest_31 cn_4_40 (by decide) ?_
        refine rr_lcmp_ge 78 (pc := 34) B dX4_joinWithRest_34 dX4_joinWithRest_35 (by decide) (by omega) (fun b3 => ?_) (fun b3 => ?_)
        · refine ih.2.1 _ _ _ ?_ ?_ ?_ ?_ ?_
          · omega
          · first | exact K1 | exact frm_ms K1 rfl
          · exact K2
          · intro u a b
            by_cases e : u = nO set rest
            · subst e
              rw [J2.1]
              first
                | (rw [ms_at, if_pos ⟨⟨⟨J2.2.1, J2.2.2⟩, by omega⟩, by omega, by rw [← U27]; omega⟩]; done)
                | (rw [U27, if_neg (by rintro ⟨-, q1, q2⟩; rw [← U27] at q2; omega)]; done)
            · first | rw [ms_off e, K3 u a b] | rw [K3 u a b]
              by_cases q : nA u set = set ∧ nD u (M 4 7) = 0
              · have ne : nD u set ≠ rest := fun z => e (by rw [← z, jl1 a q.1])
                exact if_cg ⟨fun y => ⟨⟨q, by have := y.1.2; omega⟩, y.2⟩, fun y => ⟨⟨q, by have := y.1.2; omega⟩, y.2⟩⟩
              · rw [if_neg (fun z => q z.1.1), if_neg (fun z => q z.1.1)]
          · omega
        · refine rr_lload2 (pc := 38) B dX4_joinWithRest_38 ?_
          refine rr_aload0 (pc := 39) B dX4_joinWithRest_39 ?_
          refine rr_getR (pc := 40) B dX4_joinWithRest_40 fl_4_26 or_4_5 ?_
          refine rr_iload5 (pc := 43) B dX4_joinWithRest_43 ?_
          refine rr_laloadE (pc := 45) B dX4_joinWithRest_45 sa_28 (by omega) (K1 28 _ rfl) (fun b4 => ?_)
          refine rr_ladd (pc := 46) B dX4_joinWithRest_46 ?_
          refine rr_aload0 (pc := 47) B dX4_joinWithRest_47 ?_
          refine rr_getR (pc := 48) B dX4_joinWithRest_48 fl_4_22 or_4_4 ?_
          refine rr_iload1 (pc := 51) B dX4_joinWithRest_51 ?_
          refine rr_iload5 (pc := 52) B dX4_joinWithRest_52 ?_
          refine rr_orN 8 (pc := 54) B dX4_joinWithRest_54 (by decide) (by omega) (fun b5 => ?_)
          refine rr_laload (pc := 55) B dX4_joinWithRest_55 sa_27 (by simp only [show ((2 ^ 8 : Nat) : Int) = 256 from rfl] at *; omega) (fun b6 => ?_)
          refine rr_lcmp_ge 78 (pc := 56) B dX4_joinWithRest_56 dX4_joinWithRest_57 (by decide) (by have := G1.at (sa_27.2.2 (nO set rest)); omega) (fun b7 => ?_) (fun b7 => ?_)
          · refine ih.2.1 _ _ _ ?_ ?_ ?_ ?_ ?_
            · omega
            · first | exact K1 | exact frm_ms K1 rfl
            · exact K2
            · intro u a b
              by_cases e : u = nO set rest
              · subst e
                rw [J2.1]
                first
                  | (rw [ms_at, if_pos ⟨⟨⟨J2.2.1, J2.2.2⟩, by omega⟩, by omega, by rw [← U27]; omega⟩]; done)
                  | (rw [U27, if_neg (by rintro ⟨-, q1, q2⟩; rw [← U27] at q2; omega)]; done)
              · first | rw [ms_off e, K3 u a b] | rw [K3 u a b]
                by_cases q : nA u set = set ∧ nD u (M 4 7) = 0
                · have ne : nD u set ≠ rest := fun z => e (by rw [← z, jl1 a q.1])
                  exact if_cg ⟨fun y => ⟨⟨q, by have := y.1.2; omega⟩, y.2⟩, fun y => ⟨⟨q, by have := y.1.2; omega⟩, y.2⟩⟩
                · rw [if_neg (fun z => q z.1.1), if_neg (fun z => q z.1.1)]
            · omega
          · refine rr_aload0 (pc := 60) B dX4_joinWithRest_60 ?_
            refine rr_getR (pc := 61) B dX4_joinWithRest_61 fl_4_22 or_4_4 ?_
            refine rr_iload1 (pc := 64) B dX4_joinWithRest_64 ?_
            refine rr_iload5 (pc := 65) B dX4_joinWithRest_65 ?_
            refine rr_orN 8 (pc := 67) B dX4_joinWithRest_67 (by decide) (by omega) (fun b8 => ?_)
            refine rr_lload2 (pc := 68) B dX4_joinWithRest_68 ?_
            refine rr_aload0 (pc := 69) B dX4_joinWithRest_69 ?_
            refine rr_getR (pc := 70) B dX4_joinWithRest_70 fl_4_26 or_4_5 ?_
            refine rr_iload5 (pc := 73) B dX4_joinWithRest_73 ?_
            refine rr_laloadE (pc := 75) B dX4_joinWithRest_75 sa_28 (by omega) (K1 28 _ rfl) (fun b9 => ?_)
            refine rr_ladd (pc := 76) B dX4_joinWithRest_76 ?_
            refine rr_lastore (pc := 77) B dX4_joinWithRest_77 sa_27 (by simp only [show ((2 ^ 8 : Nat) : Int) = 256 from rfl] at *; omega) (by have := G1.at (sa_27.2.2 (nO set rest)); omega) ?_
            refine ih.2.1 _ _ _ ?_ ?_ ?_ ?_ ?_
            · omega
            · first | exact K1 | exact frm_ms K1 rfl
            · exact K2
            · intro u a b
              by_cases e : u = nO set rest
              · subst e
                rw [J2.1]
                first
                  | (rw [ms_at, if_pos ⟨⟨⟨J2.2.1, J2.2.2⟩, by omega⟩, by omega, by rw [← U27]; omega⟩]; done)
                  | (rw [U27, if_neg (by rintro ⟨-, q1, q2⟩; rw [← U27] at q2; omega)]; done)
              · first | rw [ms_off e, K3 u a b] | rw [K3 u a b]
                by_cases q : nA u set = set ∧ nD u (M 4 7) = 0
                · have ne : nD u set ≠ rest := fun z => e (by rw [← z, jl1 a q.1])
                  exact if_cg ⟨fun y => ⟨⟨q, by have := y.1.2; omega⟩, y.2⟩, fun y => ⟨⟨q, by have := y.1.2; omega⟩, y.2⟩⟩
                · rw [if_neg (fun z => q z.1.1), if_neg (fun z => q z.1.1)]
            · omega
      · intro M1 rest left K0 K1 K2 K3 hm
        refine rr_rg (fun G1 => ?_)
        refine rr_iload5 (pc := 78) B dX4_joinWithRest_78 ?_
        refine rr_if_ne 84 (pc := 80) B dX4_joinWithRest_80 (by decide) (by omega) (fun b1 => ?_) (fun b1 => ?_)
        · refine rr_iload5 (pc := 84) B dX4_joinWithRest_84 ?_
          refine rr_iconst (z := 1) (pc := 86) B dX4_joinWithRest_86 ?_
          refine rr_isub (pc := 87) B dX4_joinWithRest_87 ?_
          refine rr_iload4 (pc := 88) B dX4_joinWithRest_88 ?_
          refine rr_andN (pc := 90) B dX4_joinWithRest_90 (by omega) (fun b2 => ?_)
          refine rr_istore5 (pc := 91) B dX4_joinWithRest_91 rfl ?_
          refine rr_iinc6 (z := (-1)) (pc := 93) B dX4_joinWithRest_93 rfl ?_
          refine rr_goto 19 (pc := 96) B dX4_joinWithRest_96 (by decide) ?_
          refine ih.1 _ _ _ ?_ ?_ ?_ ?_ ?_
          · have := nA_le (rest - 1) (nD (M 4 7) set) (by omega) (by omega); omega
          · exact K1
          · exact sub_nA _ _
          · intro u a b
            rw [K3 u a b]
            by_cases q : nA u set = set ∧ nD u (M 4 7) = 0
            · have hs3 := jl3 (set := set) a q.2
              have n1 := (nD_le u set a).1
              have eq1 : (rest - 1 < nD u set) ↔ (nA (rest - 1) (nD (M 4 7) set) < nD u set) := by
                constructor
                · intro z
                  have := nA_le (rest - 1) (nD (M 4 7) set) (by omega) (by omega)
                  omega
                · intro z
                  rcases Int.lt_or_le (nD u set) rest with y | y
                  · have := sub_next (s := nD (M 4 7) set) (h := rest) (t := nD u set) (by omega) (by omega) K2 n1 hs3 y
                    omega
                  · omega
              exact if_cg ⟨fun y => ⟨⟨q, eq1.mp y.1.2⟩, y.2⟩, fun y => ⟨⟨q, eq1.mpr y.1.2⟩, y.2⟩⟩
            · rw [if_neg (fun z => q z.1.1), if_neg (fun z => q z.1.1)]
          · omega
        · refine rr_return (pc := 83) B Br dX4_joinWithRest_83 ⟨rfl, ?_⟩
          · refine ⟨fun u a b => ?_, K1⟩
            rw [K3 u a b]
            have n1 := (nD_le u set a).1
            by_cases q : nA u set = set ∧ nD u (M 4 7) = 0
            · exact if_cg ⟨fun y => ⟨q, y.2⟩, fun y => ⟨⟨q, by omega⟩, y.2⟩⟩
            · rw [if_neg (fun z => q z.1.1), if_neg (fun z => q z.1)]
  refine rr_aload0 (pc := 0) B dX4_joinWithRest_0 ?_
  refine rr_getI (pc := 1) B dX4_joinWithRest_1 fl_4_36 ob_4_7 (fun b1 => ?_)
  refine rr_iload1 (pc := 4) B dX4_joinWithRest_4 ?_
  refine rr_iconst (z := (-1)) (pc := 5) B dX4_joinWithRest_5 ?_
  refine rr_inot (pc := 6) B dX4_joinWithRest_6 ?_
  refine rr_andD (pc := 7) B dX4_joinWithRest_7 (by omega) (fun b2 => ?_)
  refine rr_istore4 (pc := 8) B dX4_joinWithRest_8 rfl ?_
  refine rr_iload4 (pc := 10) B dX4_joinWithRest_10 ?_
  refine rr_istore5 (pc := 12) B dX4_joinWithRest_12 rfl ?_
  refine rr_sipush (z := 256) (pc := 14) B dX4_joinWithRest_14 (by decide) ?_
  refine rr_istore6 (pc := 17) B dX4_joinWithRest_17 rfl ?_
  refine (L _).1 _ _ _ ?_ ?_ ?_ ?_ (Nat.lt_succ_self _)
  · omega
  · exact frm_rfl
  · exact fun k hk e => e
  · intro u a b
    rw [if_neg]
    rintro ⟨⟨q1, q2⟩, -⟩
    have := sub_le OS.1 (nD_le u set a).1 (jl3 (set := set) a q1.2)
    omega
