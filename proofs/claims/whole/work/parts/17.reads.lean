set_option maxHeartbeats 4000000 in
set_option maxRecDepth 100000 in
theorem ct_X9_byteAt (g : ax_G) (M : ax_M) (text k : Int) (n : Int) (T : Int → Int) (H0 : 0 ≤ text ∧ text ≤ 1) (H1 : 0 ≤ k ∧ k ≤ 200) (H2 : M 45 text = n) (H3 : ∀ i, 0 ≤ i → i < n → M 46 (80 * text + i) = T i) : CT g md_X9_byteAt 0 [aR 9, aI text, aI k] M (pI (btT T n k) (M)) := by
  refine ct_intro 0 rfl rfl ?_
  intro X hg B Br
  subst hg
  show AW X 0 [some (aR 9), some (aI text), some (aI k)] [] M
  refine rr_rg (fun G0 => ?_)
  refine rr_iload2 (pc := 0) B dX9_byteAt_0 ?_
  refine rr_aload0 (pc := 1) B dX9_byteAt_1 ?_
  refine rr_getR (pc := 2) B dX9_byteAt_2 fl_9_7 or_9_0 ?_
  refine rr_iload1 (pc := 5) B dX9_byteAt_5 ?_
  refine rr_ialoadE (pc := 6) B dX9_byteAt_6 sa_45 (by omega) (H2) (fun b1 => ?_)
  refine rr_icmp_ge 24 (pc := 7) B dX9_byteAt_7 (by decide) (by omega) (fun b2 => ?_) (fun b2 => ?_)
  · refine rr_iconst (z := (-1)) (pc := 24) B dX9_byteAt_24 ?_
    refine rr_ireturn (pc := 25) B Br dX9_byteAt_25 ⟨congrArg (fun z => some (aI z)) ?_, ?_⟩
    · first | (rw [bt_at (by omega), ← H3 k (by omega) (by omega)]; done) | (rw [bt_end (by omega)]; done)
    · first | rfl | assumption
  · refine rr_aload0 (pc := 10) B dX9_byteAt_10 ?_
    refine rr_getR (pc := 11) B dX9_byteAt_11 fl_9_13 or_9_1 ?_
    refine rr_bipush (z := 80) (pc := 14) B dX9_byteAt_14 (by decide) ?_
    refine rr_iload1 (pc := 16) B dX9_byteAt_16 ?_
    refine rr_imul (pc := 17) B dX9_byteAt_17 ?_
    refine rr_iload2 (pc := 18) B dX9_byteAt_18 ?_
    refine rr_iadd (pc := 19) B dX9_byteAt_19 ?_
    refine rr_iaload (pc := 20) B dX9_byteAt_20 sa_46 (by have := G0.at (sa_45.2.2 text); rw [H2] at this; omega) (fun b3 => ?_)
    refine rr_goto 25 (pc := 21) B dX9_byteAt_21 (by decide) ?_
    refine rr_ireturn (pc := 25) B Br dX9_byteAt_25 ⟨congrArg (fun z => some (aI z)) ?_, ?_⟩
    · first | (rw [bt_at (by omega), ← H3 k (by omega) (by omega)]; done) | (rw [bt_end (by omega)]; done)
    · first | rfl | assumption
set_option maxHeartbeats 16000000 in
set_option maxRecDepth 100000 in
theorem ct_X9_readsDeeds (g : ax_G) (M : ax_M) (n : Int) (T : Int → Int) (H0 : M 45 0 = n) (H1 : ∀ i, 0 ≤ i → i < n → M 46 (80 * 0 + i) = T i) : CT g md_X9_readsDeeds 1 [aR 9] M (pIR (dq T n 0 7) (fun M2 => M2 9 2 = dq T n 0 6 ∧ agD (dq T n) M2 (dq T n 0 6) ∧ frm exD M M2)) := by
  refine ct_intro 4 rfl rfl ?_
  intro X hg B Br
  subst hg
  show AW X 0 [some (aR 9), none, none, none, none] [] M
  refine rr_rg (fun G0 => ?_)
  have N80 : 0 ≤ n ∧ n ≤ 80 := by have := G0.at (sa_45.2.2 0); rw [H0] at this; omega
  have TB : ∀ k, 0 ≤ k → -1 ≤ btT T n k ∧ btT T n k ≤ 255 := by
    intro k hk
    by_cases q : k < n
    · rw [bt_at q, ← H1 k hk q]
      have := G0.at (sa_46.2.2 (80 * 0 + k))
      omega
    · rw [bt_end (by omega)]
      omega
  have L : ∀ nn : Nat, (∀ (M1 : ax_M) (n1 a : Int) (w3 w4 : Option ax_V), (0 ≤ a ∧ a ≤ n) → (0 ≤ n1 ∧ n1 ≤ 8) → (dq T a 0 10 = -1) → (dq T a 0 8 = n1) → (dq T a 0 9 = 0) → (agD (dq T a) M1 n1) → (frm exD M M1) → (M1 9 2 = 0) → ((2 * (100 - a) + 1).toNat) < nn → AW X 9 [some (aR 9), some (aI n1), some (aI a), w3, w4] [] M1) ∧ (∀ (M1 : ax_M) (n1 a r3 : Int) (w4 : Option ax_V), (4 ≤ a ∧ a ≤ n) → (0 ≤ n1 ∧ n1 < 8) → (dq T a 0 10 = -1) → (dq T a 0 8 = n1) → (dq T a 0 9 = 4) → (agD (dq T a) M1 n1) → (M1 47 n1 = dq T a 10 n1 ∧ M1 48 n1 = dq T a 11 n1 ∧ M1 49 n1 = dq T a 12 n1 ∧ M1 50 n1 = dq T a 13 n1 ∧ M1 51 n1 = dq T a 14 n1) → (frm exD M M1) → (M1 9 2 = 0) → ((2 * (100 - a)).toNat) < nn → AW X 189 [some (aR 9), some (aI n1), some (aI a), some (aI r3), w4] [] M1) ∧ True := by
    intro nn
    induction nn with
    | zero => exact ⟨by intros; omega, by intros; omega, trivial⟩
    | succ nn ih =>
      refine ⟨?_, ?_, trivial⟩
      · intro M1 n1 a w3 w4 K0 K1 K2 K3 K4 K5 K6 K7 hm
        refine rr_rg (fun G1 => ?_)
        have E45 : M1 45 0 = n := (K6 45 0 rfl).trans H0
        have E46 : ∀ i, 0 ≤ i → i < n → M1 46 (80 * 0 + i) = T i := fun i h0 h1 => (K6 46 _ rfl).trans (H1 i h0 h1)
        refine rr_iload2 (pc := 9) B dX9_readsDeeds_9 ?_
        refine rr_aload0 (pc := 10) B dX9_readsDeeds_10 ?_
        refine rr_getR (pc := 11) B dX9_readsDeeds_11 fl_9_7 or_9_0 ?_
        refine rr_iconst (z := 0) (pc := 14) B dX9_readsDeeds_14 ?_
        refine rr_ialoadE (pc := 15) B dX9_readsDeeds_15 sa_45 (by omega) (E45) (fun b1 => ?_)
        refine rr_icmp_lt 23 (pc := 16) B dX9_readsDeeds_16 (by decide) (by omega) (fun b2 => ?_) (fun b2 => ?_)
        · refine rr_iload1 (pc := 23) B dX9_readsDeeds_23 ?_
          refine rr_bipush (z := 8) (pc := 24) B dX9_readsDeeds_24 (by decide) ?_
          refine rr_icmp_eq 42 (pc := 26) B dX9_readsDeeds_26 (by decide) (by omega) (fun b3 => ?_) (fun b3 => ?_)
          · have W := dq_f T (f := a) (n := n) K0.1 K0.2 (by omega) K2 (fun q => dq_kbad T K2 K4 (by rw [K3, ← bt_at (T := T) q]; omega)) (fun _ => by rw [K4]; omega)
            refine rr_iload2 (pc := 42) B dX9_readsDeeds_42 ?_
            refine rr_ireturn (pc := 43) B Br dX9_readsDeeds_43 ⟨congrArg (fun z => some (aI z)) ?_, ?_⟩
            · exact W.1.symm
            · refine ⟨(show M1 9 2 = dq T n 0 6 by rw [W.2]; exact K7), (by rw [W.2]; intro d h0 h1; omega), K6⟩
          · refine rr_aload0 (pc := 29) B dX9_readsDeeds_29 ?_
            refine rr_iconst (z := 0) (pc := 30) B dX9_readsDeeds_30 ?_
            refine rr_iload2 (pc := 31) B dX9_readsDeeds_31 ?_
            refine rc_VI2 (pc := 32) B dX9_readsDeeds_32 vm_X9_byteAt lk_9_111 so_9 rfl (ct_X9_byteAt _ _ _ _ _ _ (by omega) (by omega) (by exact E45) (by exact E46)) (Nat.le_of_ble_eq_true rfl) (Nat.le_of_ble_eq_true rfl) ?_
            refine rc_SI1 (pc := 35) B dX9_readsDeeds_35 st_X9_kindBy lk_9_115 (ct_X9_kindBy _ _ _  (by have := TB a (by omega); omega)) (Nat.le_of_ble_eq_true rfl) (Nat.le_of_ble_eq_true rfl) ?_
            refine rr_iconst (z := (-1)) (pc := 38) B dX9_readsDeeds_38 ?_
            refine rr_icmp_ne 44 (pc := 39) B dX9_readsDeeds_39 (by decide) (by have := kV_r (btT T n a); omega) (fun b4 => ?_) (fun b4 => ?_)
            · have A0 := bt_in (T := T) (n := n) (k := a) (fun e => ‹kV (btT T n a) ≠ -1› (by rw [e]; rfl))
              have Q0 := dq_head T K0.1 K2 K3 (by omega) K4 (by rw [← A0.2]; assumption)
              refine rr_aload0 (pc := 44) B dX9_readsDeeds_44 ?_
              refine rr_iconst (z := 0) (pc := 45) B dX9_readsDeeds_45 ?_
              refine rr_iload2 (pc := 46) B dX9_readsDeeds_46 ?_
              refine rr_iconst (z := 1) (pc := 47) B dX9_readsDeeds_47 ?_
              refine rr_iadd (pc := 48) B dX9_readsDeeds_48 ?_
              refine rc_VI2 (pc := 49) B dX9_readsDeeds_49 vm_X9_byteAt lk_9_111 so_9 rfl (ct_X9_byteAt _ _ _ _ _ _ (by omega) (by omega) (by exact E45) (by exact E46)) (Nat.le_of_ble_eq_true rfl) (Nat.le_of_ble_eq_true rfl) ?_
              refine rr_bipush (z := 48) (pc := 52) B dX9_readsDeeds_52 (by decide) ?_
              refine rr_bipush (z := 53) (pc := 54) B dX9_readsDeeds_54 (by decide) ?_
              refine rc_SI3 (pc := 56) B dX9_readsDeeds_56 st_X9_in lk_9_103 (ct_X9_in _ _ _ _ _  (by have := TB (a + 1) (by omega); omega)) (Nat.le_of_ble_eq_true rfl) (Nat.le_of_ble_eq_true rfl) ?_
              refine rr_if_neB 66 (pc := 59) B dX9_readsDeeds_59 (by decide) (fun b5 => ?_) (fun b5 => ?_)
              · replace b5 := of_decide_eq_true b5
                have A1 := bt_in (T := T) (n := n) (k := a + 1) (by omega)
                have A1v : fgV (T (a + 1)) 0 5 = T (a + 1) - 48 := by unfold fgV; rw [if_pos]; rw [← A1.2]; omega
                have Q1 := Q0.2 (by rw [A1v, ← A1.2]; omega)
                refine rr_aload0 (pc := 66) B dX9_readsDeeds_66 ?_
                refine rr_iconst (z := 0) (pc := 67) B dX9_readsDeeds_67 ?_
                refine rr_iload2 (pc := 68) B dX9_readsDeeds_68 ?_
                refine rr_iconst (z := 2) (pc := 69) B dX9_readsDeeds_69 ?_
                refine rr_iadd (pc := 70) B dX9_readsDeeds_70 ?_
                refine rc_VI2 (pc := 71) B dX9_readsDeeds_71 vm_X9_byteAt lk_9_111 so_9 rfl (ct_X9_byteAt _ _ _ _ _ _ (by omega) (by omega) (by exact E45) (by exact E46)) (Nat.le_of_ble_eq_true rfl) (Nat.le_of_ble_eq_true rfl) ?_
                refine rr_istore3 (pc := 74) B dX9_readsDeeds_74 rfl ?_
                refine rr_iload3 (pc := 75) B dX9_readsDeeds_75 ?_
                refine rr_bipush (z := 114) (pc := 76) B dX9_readsDeeds_76 (by decide) ?_
                refine rr_icmp_eq 91 (pc := 78) B dX9_readsDeeds_78 (by decide) (by have := TB (a + 2) (by omega); omega) (fun b6 => ?_) (fun b6 => ?_)
                · have A2 := bt_in (T := T) (n := n) (k := a + 2) (by omega)
                  have A2v : wtV (T (a + 2)) = if btT T n (a + 2) = 114 then 1 else 0 := by
                    unfold wtV
                    rw [← A2.2]
                    by_cases q : btT T n (a + 2) = 114
                    · rw [if_pos q, if_pos q]
                    · rw [if_neg q, if_neg q, if_pos (by omega)]
                  have Q2 := Q1.2 (by rw [A2v]; split <;> omega)
                  refine rr_aload0 (pc := 91) B dX9_readsDeeds_91 ?_
                  refine rr_iconst (z := 0) (pc := 92) B dX9_readsDeeds_92 ?_
                  refine rr_iload2 (pc := 93) B dX9_readsDeeds_93 ?_
                  refine rr_iconst (z := 3) (pc := 94) B dX9_readsDeeds_94 ?_
                  refine rr_iadd (pc := 95) B dX9_readsDeeds_95 ?_
                  refine rc_VI2 (pc := 96) B dX9_readsDeeds_96 vm_X9_byteAt lk_9_111 so_9 rfl (ct_X9_byteAt _ _ _ _ _ _ (by omega) (by omega) (by exact E45) (by exact E46)) (Nat.le_of_ble_eq_true rfl) (Nat.le_of_ble_eq_true rfl) ?_
                  refine rr_bipush (z := 49) (pc := 99) B dX9_readsDeeds_99 (by decide) ?_
                  refine rr_bipush (z := 57) (pc := 101) B dX9_readsDeeds_101 (by decide) ?_
                  refine rc_SI3 (pc := 103) B dX9_readsDeeds_103 st_X9_in lk_9_103 (ct_X9_in _ _ _ _ _  (by have := TB (a + 3) (by omega); omega)) (Nat.le_of_ble_eq_true rfl) (Nat.le_of_ble_eq_true rfl) ?_
                  refine rr_if_neB 113 (pc := 106) B dX9_readsDeeds_106 (by decide) (fun b7 => ?_) (fun b7 => ?_)
                  · replace b7 := of_decide_eq_true b7
                    have A3 := bt_in (T := T) (n := n) (k := a + 3) (by omega)
                    have A3v : fgV (T (a + 3)) 1 9 = T (a + 3) - 48 := by unfold fgV; rw [if_pos]; rw [← A3.2]; omega
                    have Q3 := Q2.2 (by rw [A3v, ← A3.2]; omega)
                    refine rr_aload0 (pc := 113) B dX9_readsDeeds_113 ?_
                    refine rr_getR (pc := 114) B dX9_readsDeeds_114 fl_9_16 or_9_3 ?_
                    refine rr_iload1 (pc := 117) B dX9_readsDeeds_117 ?_
                    refine rr_aload0 (pc := 118) B dX9_readsDeeds_118 ?_
                    refine rr_iconst (z := 0) (pc := 119) B dX9_readsDeeds_119 ?_
                    refine rr_iload2 (pc := 120) B dX9_readsDeeds_120 ?_
                    refine rc_VI2 (pc := 121) B dX9_readsDeeds_121 vm_X9_byteAt lk_9_111 so_9 rfl (ct_X9_byteAt _ _ _ _ _ _ (by omega) (by omega) (by exact E45) (by exact E46)) (Nat.le_of_ble_eq_true rfl) (Nat.le_of_ble_eq_true rfl) ?_
                    refine rc_SI1 (pc := 124) B dX9_readsDeeds_124 st_X9_kindBy lk_9_115 (ct_X9_kindBy _ _ _  (by have := TB a (by omega); omega)) (Nat.le_of_ble_eq_true rfl) (Nat.le_of_ble_eq_true rfl) ?_
                    refine rr_iastore (pc := 127) B dX9_readsDeeds_127 sa_47 (by omega) (by have := kV_r (btT T n a); omega) ?_
                    refine rr_aload0 (pc := 128) B dX9_readsDeeds_128 ?_
                    refine rr_getR (pc := 129) B dX9_readsDeeds_129 fl_9_19 or_9_4 ?_
                    refine rr_iload1 (pc := 132) B dX9_readsDeeds_132 ?_
                    refine rr_aload0 (pc := 133) B dX9_readsDeeds_133 ?_
                    refine rr_iconst (z := 0) (pc := 134) B dX9_readsDeeds_134 ?_
                    refine rr_iload2 (pc := 135) B dX9_readsDeeds_135 ?_
                    refine rr_iconst (z := 1) (pc := 136) B dX9_readsDeeds_136 ?_
                    refine rr_iadd (pc := 137) B dX9_readsDeeds_137 ?_
                    refine rc_VI2 (pc := 138) B dX9_readsDeeds_138 vm_X9_byteAt lk_9_111 so_9 rfl (ct_X9_byteAt _ _ _ _ _ _ (by omega) (by omega) (by exact E45) (by exact E46)) (Nat.le_of_ble_eq_true rfl) (Nat.le_of_ble_eq_true rfl) ?_
                    refine rr_bipush (z := 48) (pc := 141) B dX9_readsDeeds_141 (by decide) ?_
                    refine rr_isub (pc := 143) B dX9_readsDeeds_143 ?_
                    refine rr_iastore (pc := 144) B dX9_readsDeeds_144 sa_48 (by omega) (by have := TB (a + 1) (by omega); omega) ?_
                    refine rr_aload0 (pc := 145) B dX9_readsDeeds_145 ?_
                    refine rr_getR (pc := 146) B dX9_readsDeeds_146 fl_9_22 or_9_5 ?_
                    refine rr_iload1 (pc := 149) B dX9_readsDeeds_149 ?_
                    refine rr_iload3 (pc := 150) B dX9_readsDeeds_150 ?_
                    refine rr_bipush (z := 114) (pc := 151) B dX9_readsDeeds_151 (by decide) ?_
                    refine rr_icmp_ne 160 (pc := 153) B dX9_readsDeeds_153 (by decide) (by have := TB (a + 2) (by omega); omega) (fun b8 => ?_) (fun b8 => ?_)
                    · refine rr_iconst (z := 0) (pc := 160) B dX9_readsDeeds_160 ?_
                      refine rr_iastore (pc := 161) B dX9_readsDeeds_161 sa_49 (by omega) (by omega) ?_
                      refine rr_aload0 (pc := 162) B dX9_readsDeeds_162 ?_
                      refine rr_getR (pc := 163) B dX9_readsDeeds_163 fl_9_25 or_9_6 ?_
                      refine rr_iload1 (pc := 166) B dX9_readsDeeds_166 ?_
                      refine rr_aload0 (pc := 167) B dX9_readsDeeds_167 ?_
                      refine rr_iconst (z := 0) (pc := 168) B dX9_readsDeeds_168 ?_
                      refine rr_iload2 (pc := 169) B dX9_readsDeeds_169 ?_
                      refine rr_iconst (z := 3) (pc := 170) B dX9_readsDeeds_170 ?_
                      refine rr_iadd (pc := 171) B dX9_readsDeeds_171 ?_
                      refine rc_VI2 (pc := 172) B dX9_readsDeeds_172 vm_X9_byteAt lk_9_111 so_9 rfl (ct_X9_byteAt _ _ _ _ _ _ (by omega) (by omega) (by exact E45) (by exact E46)) (Nat.le_of_ble_eq_true rfl) (Nat.le_of_ble_eq_true rfl) ?_
                      refine rr_bipush (z := 48) (pc := 175) B dX9_readsDeeds_175 (by decide) ?_
                      refine rr_isub (pc := 177) B dX9_readsDeeds_177 ?_
                      refine rr_iastore (pc := 178) B dX9_readsDeeds_178 sa_50 (by omega) (by have := TB (a + 3) (by omega); omega) ?_
                      refine rr_aload0 (pc := 179) B dX9_readsDeeds_179 ?_
                      refine rr_getR (pc := 180) B dX9_readsDeeds_180 fl_9_28 or_9_7 ?_
                      refine rr_iload1 (pc := 183) B dX9_readsDeeds_183 ?_
                      refine rr_iconst (z := 0) (pc := 184) B dX9_readsDeeds_184 ?_
                      refine rr_iastore (pc := 185) B dX9_readsDeeds_185 sa_51 (by omega) (by omega) ?_
                      refine rr_iinc2 (z := 4) (pc := 186) B dX9_readsDeeds_186 rfl ?_
                      refine ih.2.1 _ _ _ _ _ ?_ ?_ ?_ ?_ ?_ ?_ ?_ ?_ ?_ ?_
                      · omega
                      · omega
                      · exact Q3.1
                      · exact Q3.2.1
                      · exact Q3.2.2.1
                      · intro d h0 h1
                        have k5 := K5 d h0 h1
                        rw [Q3.2.2.2.1, Q3.2.2.2.2.1, Q3.2.2.2.2.2.1, Q3.2.2.2.2.2.2.1, Q3.2.2.2.2.2.2.2, if_neg (by omega), if_neg (by omega), if_neg (by omega), if_neg (by omega), if_neg (by omega)]
                        simp only [ms, show ¬ d = n1 by omega, and_false, if_false]
                        exact k5
                      · rw [Q3.2.2.2.1, Q3.2.2.2.2.1, Q3.2.2.2.2.2.1, Q3.2.2.2.2.2.2.1, Q3.2.2.2.2.2.2.2, if_pos rfl, if_pos rfl, if_pos rfl, if_pos rfl, if_pos rfl, A1v, A2v, A3v, ← A0.2, ← A1.2, ← A3.2]
                        refine ⟨by simp [ms], by simp [ms], ?_, by simp [ms], by simp [ms]⟩
                        first | (rw [if_pos (by assumption)]; simp [ms]; done) | (rw [if_neg (by assumption)]; simp [ms]; done)
                      · exact frm_ms (frm_ms (frm_ms (frm_ms (frm_ms K6 (by simp [exD])) (by simp [exD])) (by simp [exD])) (by simp [exD])) (by simp [exD])
                      · exact K7
                      · omega
                    · refine rr_iconst (z := 1) (pc := 156) B dX9_readsDeeds_156 ?_
                      refine rr_goto 161 (pc := 157) B dX9_readsDeeds_157 (by decide) ?_
                      refine rr_iastore (pc := 161) B dX9_readsDeeds_161 sa_49 (by omega) (by omega) ?_
                      refine rr_aload0 (pc := 162) B dX9_readsDeeds_162 ?_
                      refine rr_getR (pc := 163) B dX9_readsDeeds_163 fl_9_25 or_9_6 ?_
                      refine rr_iload1 (pc := 166) B dX9_readsDeeds_166 ?_
                      refine rr_aload0 (pc := 167) B dX9_readsDeeds_167 ?_
                      refine rr_iconst (z := 0) (pc := 168) B dX9_readsDeeds_168 ?_
                      refine rr_iload2 (pc := 169) B dX9_readsDeeds_169 ?_
                      refine rr_iconst (z := 3) (pc := 170) B dX9_readsDeeds_170 ?_
                      refine rr_iadd (pc := 171) B dX9_readsDeeds_171 ?_
                      refine rc_VI2 (pc := 172) B dX9_readsDeeds_172 vm_X9_byteAt lk_9_111 so_9 rfl (ct_X9_byteAt _ _ _ _ _ _ (by omega) (by omega) (by exact E45) (by exact E46)) (Nat.le_of_ble_eq_true rfl) (Nat.le_of_ble_eq_true rfl) ?_
                      refine rr_bipush (z := 48) (pc := 175) B dX9_readsDeeds_175 (by decide) ?_
                      refine rr_isub (pc := 177) B dX9_readsDeeds_177 ?_
                      refine rr_iastore (pc := 178) B dX9_readsDeeds_178 sa_50 (by omega) (by have := TB (a + 3) (by omega); omega) ?_
                      refine rr_aload0 (pc := 179) B dX9_readsDeeds_179 ?_
                      refine rr_getR (pc := 180) B dX9_readsDeeds_180 fl_9_28 or_9_7 ?_
                      refine rr_iload1 (pc := 183) B dX9_readsDeeds_183 ?_
                      refine rr_iconst (z := 0) (pc := 184) B dX9_readsDeeds_184 ?_
                      refine rr_iastore (pc := 185) B dX9_readsDeeds_185 sa_51 (by omega) (by omega) ?_
                      refine rr_iinc2 (z := 4) (pc := 186) B dX9_readsDeeds_186 rfl ?_
                      refine ih.2.1 _ _ _ _ _ ?_ ?_ ?_ ?_ ?_ ?_ ?_ ?_ ?_ ?_
                      · omega
                      · omega
                      · exact Q3.1
                      · exact Q3.2.1
                      · exact Q3.2.2.1
                      · intro d h0 h1
                        have k5 := K5 d h0 h1
                        rw [Q3.2.2.2.1, Q3.2.2.2.2.1, Q3.2.2.2.2.2.1, Q3.2.2.2.2.2.2.1, Q3.2.2.2.2.2.2.2, if_neg (by omega), if_neg (by omega), if_neg (by omega), if_neg (by omega), if_neg (by omega)]
                        simp only [ms, show ¬ d = n1 by omega, and_false, if_false]
                        exact k5
                      · rw [Q3.2.2.2.1, Q3.2.2.2.2.1, Q3.2.2.2.2.2.1, Q3.2.2.2.2.2.2.1, Q3.2.2.2.2.2.2.2, if_pos rfl, if_pos rfl, if_pos rfl, if_pos rfl, if_pos rfl, A1v, A2v, A3v, ← A0.2, ← A1.2, ← A3.2]
                        refine ⟨by simp [ms], by simp [ms], ?_, by simp [ms], by simp [ms]⟩
                        first | (rw [if_pos (by assumption)]; simp [ms]; done) | (rw [if_neg (by assumption)]; simp [ms]; done)
                      · exact frm_ms (frm_ms (frm_ms (frm_ms (frm_ms K6 (by simp [exD])) (by simp [exD])) (by simp [exD])) (by simp [exD])) (by simp [exD])
                      · exact K7
                      · omega
                  · replace b7 := of_decide_eq_false b7
                    have W := dq_f T (f := a + 3) (n := n) (by omega) (by omega) (by omega) Q2.1.1 (fun q => by rw [Q2.1.2.2]; refine decide_eq_false (fun z => z ?_); unfold fgV; rw [if_neg]; rw [← bt_at (T := T) q]; omega) (fun _ => by rw [Q2.1.2.1]; omega)
                    refine rr_iload2 (pc := 109) B dX9_readsDeeds_109 ?_
                    refine rr_iconst (z := 3) (pc := 110) B dX9_readsDeeds_110 ?_
                    refine rr_iadd (pc := 111) B dX9_readsDeeds_111 ?_
                    refine rr_ireturn (pc := 112) B Br dX9_readsDeeds_112 ⟨congrArg (fun z => some (aI z)) ?_, ?_⟩
                    · exact W.1.symm
                    · refine ⟨(show M1 9 2 = dq T n 0 6 by rw [W.2]; exact K7), (by rw [W.2]; intro d h0 h1; omega), K6⟩
                · refine rr_iload3 (pc := 81) B dX9_readsDeeds_81 ?_
                  refine rr_bipush (z := 100) (pc := 82) B dX9_readsDeeds_82 (by decide) ?_
                  refine rr_icmp_eq 91 (pc := 84) B dX9_readsDeeds_84 (by decide) (by have := TB (a + 2) (by omega); omega) (fun b7 => ?_) (fun b7 => ?_)
                  · have A2 := bt_in (T := T) (n := n) (k := a + 2) (by omega)
                    have A2v : wtV (T (a + 2)) = if btT T n (a + 2) = 114 then 1 else 0 := by
                      unfold wtV
                      rw [← A2.2]
                      by_cases q : btT T n (a + 2) = 114
                      · rw [if_pos q, if_pos q]
                      · rw [if_neg q, if_neg q, if_pos (by omega)]
                    have Q2 := Q1.2 (by rw [A2v]; split <;> omega)
                    refine rr_aload0 (pc := 91) B dX9_readsDeeds_91 ?_
                    refine rr_iconst (z := 0) (pc := 92) B dX9_readsDeeds_92 ?_
                    refine rr_iload2 (pc := 93) B dX9_readsDeeds_93 ?_
                    refine rr_iconst (z := 3) (pc := 94) B dX9_readsDeeds_94 ?_
                    refine rr_iadd (pc := 95) B dX9_readsDeeds_95 ?_
                    refine rc_VI2 (pc := 96) B dX9_readsDeeds_96 vm_X9_byteAt lk_9_111 so_9 rfl (ct_X9_byteAt _ _ _ _ _ _ (by omega) (by omega) (by exact E45) (by exact E46)) (Nat.le_of_ble_eq_true rfl) (Nat.le_of_ble_eq_true rfl) ?_
                    refine rr_bipush (z := 49) (pc := 99) B dX9_readsDeeds_99 (by decide) ?_
                    refine rr_bipush (z := 57) (pc := 101) B dX9_readsDeeds_101 (by decide) ?_
                    refine rc_SI3 (pc := 103) B dX9_readsDeeds_103 st_X9_in lk_9_103 (ct_X9_in _ _ _ _ _  (by have := TB (a + 3) (by omega); omega)) (Nat.le_of_ble_eq_true rfl) (Nat.le_of_ble_eq_true rfl) ?_
                    refine rr_if_neB 113 (pc := 106) B dX9_readsDeeds_106 (by decide) (fun b8 => ?_) (fun b8 => ?_)
                    · replace b8 := of_decide_eq_true b8
                      have A3 := bt_in (T := T) (n := n) (k := a + 3) (by omega)
                      have A3v : fgV (T (a + 3)) 1 9 = T (a + 3) - 48 := by unfold fgV; rw [if_pos]; rw [← A3.2]; omega
                      have Q3 := Q2.2 (by rw [A3v, ← A3.2]; omega)
                      refine rr_aload0 (pc := 113) B dX9_readsDeeds_113 ?_
                      refine rr_getR (pc := 114) B dX9_readsDeeds_114 fl_9_16 or_9_3 ?_
                      refine rr_iload1 (pc := 117) B dX9_readsDeeds_117 ?_
                      refine rr_aload0 (pc := 118) B dX9_readsDeeds_118 ?_
                      refine rr_iconst (z := 0) (pc := 119) B dX9_readsDeeds_119 ?_
                      refine rr_iload2 (pc := 120) B dX9_readsDeeds_120 ?_
                      refine rc_VI2 (pc := 121) B dX9_readsDeeds_121 vm_X9_byteAt lk_9_111 so_9 rfl (ct_X9_byteAt _ _ _ _ _ _ (by omega) (by omega) (by exact E45) (by exact E46)) (Nat.le_of_ble_eq_true rfl) (Nat.le_of_ble_eq_true rfl) ?_
                      refine rc_SI1 (pc := 124) B dX9_readsDeeds_124 st_X9_kindBy lk_9_115 (ct_X9_kindBy _ _ _  (by have := TB a (by omega); omega)) (Nat.le_of_ble_eq_true rfl) (Nat.le_of_ble_eq_true rfl) ?_
                      refine rr_iastore (pc := 127) B dX9_readsDeeds_127 sa_47 (by omega) (by have := kV_r (btT T n a); omega) ?_
                      refine rr_aload0 (pc := 128) B dX9_readsDeeds_128 ?_
                      refine rr_getR (pc := 129) B dX9_readsDeeds_129 fl_9_19 or_9_4 ?_
                      refine rr_iload1 (pc := 132) B dX9_readsDeeds_132 ?_
                      refine rr_aload0 (pc := 133) B dX9_readsDeeds_133 ?_
                      refine rr_iconst (z := 0) (pc := 134) B dX9_readsDeeds_134 ?_
                      refine rr_iload2 (pc := 135) B dX9_readsDeeds_135 ?_
                      refine rr_iconst (z := 1) (pc := 136) B dX9_readsDeeds_136 ?_
                      refine rr_iadd (pc := 137) B dX9_readsDeeds_137 ?_
                      refine rc_VI2 (pc := 138) B dX9_readsDeeds_138 vm_X9_byteAt lk_9_111 so_9 rfl (ct_X9_byteAt _ _ _ _ _ _ (by omega) (by omega) (by exact E45) (by exact E46)) (Nat.le_of_ble_eq_true rfl) (Nat.le_of_ble_eq_true rfl) ?_
                      refine rr_bipush (z := 48) (pc := 141) B dX9_readsDeeds_141 (by decide) ?_
                      refine rr_isub (pc := 143) B dX9_readsDeeds_143 ?_
                      refine rr_iastore (pc := 144) B dX9_readsDeeds_144 sa_48 (by omega) (by have := TB (a + 1) (by omega); omega) ?_
                      refine rr_aload0 (pc := 145) B dX9_readsDeeds_145 ?_
                      refine rr_getR (pc := 146) B dX9_readsDeeds_146 fl_9_22 or_9_5 ?_
                      refine rr_iload1 (pc := 149) B dX9_readsDeeds_149 ?_
                      refine rr_iload3 (pc := 150) B dX9_readsDeeds_150 ?_
                      refine rr_bipush (z := 114) (pc := 151) B dX9_readsDeeds_151 (by decide) ?_
                      refine rr_icmp_ne 160 (pc := 153) B dX9_readsDeeds_153 (by decide) (by have := TB (a + 2) (by omega); omega) (fun b9 => ?_) (fun b9 => ?_)
                      · refine rr_iconst (z := 0) (pc := 160) B dX9_readsDeeds_160 ?_
                        refine rr_iastore (pc := 161) B dX9_readsDeeds_161 sa_49 (by omega) (by omega) ?_
                        refine rr_aload0 (pc := 162) B dX9_readsDeeds_162 ?_
                        refine rr_getR (pc := 163) B dX9_readsDeeds_163 fl_9_25 or_9_6 ?_
                        refine rr_iload1 (pc := 166) B dX9_readsDeeds_166 ?_
                        refine rr_aload0 (pc := 167) B dX9_readsDeeds_167 ?_
                        refine rr_iconst (z := 0) (pc := 168) B dX9_readsDeeds_168 ?_
                        refine rr_iload2 (pc := 169) B dX9_readsDeeds_169 ?_
                        refine rr_iconst (z := 3) (pc := 170) B dX9_readsDeeds_170 ?_
                        refine rr_iadd (pc := 171) B dX9_readsDeeds_171 ?_
                        refine rc_VI2 (pc := 172) B dX9_readsDeeds_172 vm_X9_byteAt lk_9_111 so_9 rfl (ct_X9_byteAt _ _ _ _ _ _ (by omega) (by omega) (by exact E45) (by exact E46)) (Nat.le_of_ble_eq_true rfl) (Nat.le_of_ble_eq_true rfl) ?_
                        refine rr_bipush (z := 48) (pc := 175) B dX9_readsDeeds_175 (by decide) ?_
                        refine rr_isub (pc := 177) B dX9_readsDeeds_177 ?_
                        refine rr_iastore (pc := 178) B dX9_readsDeeds_178 sa_50 (by omega) (by have := TB (a + 3) (by omega); omega) ?_
                        refine rr_aload0 (pc := 179) B dX9_readsDeeds_179 ?_
                        refine rr_getR (pc := 180) B dX9_readsDeeds_180 fl_9_28 or_9_7 ?_
                        refine rr_iload1 (pc := 183) B dX9_readsDeeds_183 ?_
                        refine rr_iconst (z := 0) (pc := 184) B dX9_readsDeeds_184 ?_
                        refine rr_iastore (pc := 185) B dX9_readsDeeds_185 sa_51 (by omega) (by omega) ?_
                        refine rr_iinc2 (z := 4) (pc := 186) B dX9_readsDeeds_186 rfl ?_
                        refine ih.2.1 _ _ _ _ _ ?_ ?_ ?_ ?_ ?_ ?_ ?_ ?_ ?_ ?_
                        · omega
                        · omega
                        · exact Q3.1
                        · exact Q3.2.1
                        · exact Q3.2.2.1
                        · intro d h0 h1
                          have k5 := K5 d h0 h1
                          rw [Q3.2.2.2.1, Q3.2.2.2.2.1, Q3.2.2.2.2.2.1, Q3.2.2.2.2.2.2.1, Q3.2.2.2.2.2.2.2, if_neg (by omega), if_neg (by omega), if_neg (by omega), if_neg (by omega), if_neg (by omega)]
                          simp only [ms, show ¬ d = n1 by omega, and_false, if_false]
                          exact k5
                        · rw [Q3.2.2.2.1, Q3.2.2.2.2.1, Q3.2.2.2.2.2.1, Q3.2.2.2.2.2.2.1, Q3.2.2.2.2.2.2.2, if_pos rfl, if_pos rfl, if_pos rfl, if_pos rfl, if_pos rfl, A1v, A2v, A3v, ← A0.2, ← A1.2, ← A3.2]
                          refine ⟨by simp [ms], by simp [ms], ?_, by simp [ms], by simp [ms]⟩
                          first | (rw [if_pos (by assumption)]; simp [ms]; done) | (rw [if_neg (by assumption)]; simp [ms]; done)
                        · exact frm_ms (frm_ms (frm_ms (frm_ms (frm_ms K6 (by simp [exD])) (by simp [exD])) (by simp [exD])) (by simp [exD])) (by simp [exD])
                        · exact K7
                        · omega
                      · refine rr_iconst (z := 1) (pc := 156) B dX9_readsDeeds_156 ?_
                        refine rr_goto 161 (pc := 157) B dX9_readsDeeds_157 (by decide) ?_
                        refine rr_iastore (pc := 161) B dX9_readsDeeds_161 sa_49 (by omega) (by omega) ?_
                        refine rr_aload0 (pc := 162) B dX9_readsDeeds_162 ?_
                        refine rr_getR (pc := 163) B dX9_readsDeeds_163 fl_9_25 or_9_6 ?_
                        refine rr_iload1 (pc := 166) B dX9_readsDeeds_166 ?_
                        refine rr_aload0 (pc := 167) B dX9_readsDeeds_167 ?_
                        refine rr_iconst (z := 0) (pc := 168) B dX9_readsDeeds_168 ?_
                        refine rr_iload2 (pc := 169) B dX9_readsDeeds_169 ?_
                        refine rr_iconst (z := 3) (pc := 170) B dX9_readsDeeds_170 ?_
                        refine rr_iadd (pc := 171) B dX9_readsDeeds_171 ?_
                        refine rc_VI2 (pc := 172) B dX9_readsDeeds_172 vm_X9_byteAt lk_9_111 so_9 rfl (ct_X9_byteAt _ _ _ _ _ _ (by omega) (by omega) (by exact E45) (by exact E46)) (Nat.le_of_ble_eq_true rfl) (Nat.le_of_ble_eq_true rfl) ?_
                        refine rr_bipush (z := 48) (pc := 175) B dX9_readsDeeds_175 (by decide) ?_
                        refine rr_isub (pc := 177) B dX9_readsDeeds_177 ?_
                        refine rr_iastore (pc := 178) B dX9_readsDeeds_178 sa_50 (by omega) (by have := TB (a + 3) (by omega); omega) ?_
                        refine rr_aload0 (pc := 179) B dX9_readsDeeds_179 ?_
                        refine rr_getR (pc := 180) B dX9_readsDeeds_180 fl_9_28 or_9_7 ?_
                        refine rr_iload1 (pc := 183) B dX9_readsDeeds_183 ?_
                        refine rr_iconst (z := 0) (pc := 184) B dX9_readsDeeds_184 ?_
                        refine rr_iastore (pc := 185) B dX9_readsDeeds_185 sa_51 (by omega) (by omega) ?_
                        refine rr_iinc2 (z := 4) (pc := 186) B dX9_readsDeeds_186 rfl ?_
                        refine ih.2.1 _ _ _ _ _ ?_ ?_ ?_ ?_ ?_ ?_ ?_ ?_ ?_ ?_
                        · omega
                        · omega
                        · exact Q3.1
                        · exact Q3.2.1
                        · exact Q3.2.2.1
                        · intro d h0 h1
                          have k5 := K5 d h0 h1
                          rw [Q3.2.2.2.1, Q3.2.2.2.2.1, Q3.2.2.2.2.2.1, Q3.2.2.2.2.2.2.1, Q3.2.2.2.2.2.2.2, if_neg (by omega), if_neg (by omega), if_neg (by omega), if_neg (by omega), if_neg (by omega)]
                          simp only [ms, show ¬ d = n1 by omega, and_false, if_false]
                          exact k5
                        · rw [Q3.2.2.2.1, Q3.2.2.2.2.1, Q3.2.2.2.2.2.1, Q3.2.2.2.2.2.2.1, Q3.2.2.2.2.2.2.2, if_pos rfl, if_pos rfl, if_pos rfl, if_pos rfl, if_pos rfl, A1v, A2v, A3v, ← A0.2, ← A1.2, ← A3.2]
                          refine ⟨by simp [ms], by simp [ms], ?_, by simp [ms], by simp [ms]⟩
                          first | (rw [if_pos (by assumption)]; simp [ms]; done) | (rw [if_neg (by assumption)]; simp [ms]; done)
                        · exact frm_ms (frm_ms (frm_ms (frm_ms (frm_ms K6 (by simp [exD])) (by simp [exD])) (by simp [exD])) (by simp [exD])) (by simp [exD])
                        · exact K7
                        · omega
                    · replace b8 := of_decide_eq_false b8
                      have W := dq_f T (f := a + 3) (n := n) (by omega) (by omega) (by omega) Q2.1.1 (fun q => by rw [Q2.1.2.2]; refine decide_eq_false (fun z => z ?_); unfold fgV; rw [if_neg]; rw [← bt_at (T := T) q]; omega) (fun _ => by rw [Q2.1.2.1]; omega)
                      refine rr_iload2 (pc := 109) B dX9_readsDeeds_109 ?_
                      refine rr_iconst (z := 3) (pc := 110) B dX9_readsDeeds_110 ?_
                      refine rr_iadd (pc := 111) B dX9_readsDeeds_111 ?_
                      refine rr_ireturn (pc := 112) B Br dX9_readsDeeds_112 ⟨congrArg (fun z => some (aI z)) ?_, ?_⟩
                      · exact W.1.symm
                      · refine ⟨(show M1 9 2 = dq T n 0 6 by rw [W.2]; exact K7), (by rw [W.2]; intro d h0 h1; omega), K6⟩
                  · have W := dq_f T (f := a + 2) (n := n) (by omega) (by omega) (by omega) Q1.1.1 (fun q => by rw [Q1.1.2.2]; refine decide_eq_false (fun z => z ?_); unfold wtV; rw [← bt_at (T := T) q, if_neg (by omega), if_neg (by omega)]) (fun _ => by rw [Q1.1.2.1]; omega)
                    refine rr_iload2 (pc := 87) B dX9_readsDeeds_87 ?_
                    refine rr_iconst (z := 2) (pc := 88) B dX9_readsDeeds_88 ?_
                    refine rr_iadd (pc := 89) B dX9_readsDeeds_89 ?_
                    refine rr_ireturn (pc := 90) B Br dX9_readsDeeds_90 ⟨congrArg (fun z => some (aI z)) ?_, ?_⟩
                    · exact W.1.symm
                    · refine ⟨(show M1 9 2 = dq T n 0 6 by rw [W.2]; exact K7), (by rw [W.2]; intro d h0 h1; omega), K6⟩
              · replace b5 := of_decide_eq_false b5
                have W := dq_f T (f := a + 1) (n := n) (by omega) (by omega) (by omega) Q0.1.1 (fun q => by rw [Q0.1.2.2]; refine decide_eq_false (fun z => z ?_); unfold fgV; rw [if_neg]; rw [← bt_at (T := T) q]; omega) (fun _ => by rw [Q0.1.2.1]; omega)
                refine rr_iload2 (pc := 62) B dX9_readsDeeds_62 ?_
                refine rr_iconst (z := 1) (pc := 63) B dX9_readsDeeds_63 ?_
                refine rr_iadd (pc := 64) B dX9_readsDeeds_64 ?_
                refine rr_ireturn (pc := 65) B Br dX9_readsDeeds_65 ⟨congrArg (fun z => some (aI z)) ?_, ?_⟩
                · exact W.1.symm
                · refine ⟨(show M1 9 2 = dq T n 0 6 by rw [W.2]; exact K7), (by rw [W.2]; intro d h0 h1; omega), K6⟩
            · have W := dq_f T (f := a) (n := n) K0.1 K0.2 (by omega) K2 (fun q => dq_kbad T K2 K4 (by rw [K3, ← bt_at (T := T) q]; omega)) (fun _ => by rw [K4]; omega)
              refine rr_iload2 (pc := 42) B dX9_readsDeeds_42 ?_
              refine rr_ireturn (pc := 43) B Br dX9_readsDeeds_43 ⟨congrArg (fun z => some (aI z)) ?_, ?_⟩
              · exact W.1.symm
              · refine ⟨(show M1 9 2 = dq T n 0 6 by rw [W.2]; exact K7), (by rw [W.2]; intro d h0 h1; omega), K6⟩
        · refine rr_iload2 (pc := 19) B dX9_readsDeeds_19 ?_
          refine rr_if_le 301 (pc := 20) B dX9_readsDeeds_20 (by decide) (by omega) (fun b3 => ?_) (fun b3 => ?_)
          · refine rr_iconst (z := (-1)) (pc := 301) B dX9_readsDeeds_301 ?_
            refine rr_ireturn (pc := 302) B Br dX9_readsDeeds_302 ⟨congrArg (fun z => some (aI z)) ?_, ?_⟩
            · rw [show n = 0 by omega]; rfl
            · refine ⟨(show M1 9 2 = dq T n 0 6 by rw [show n = 0 by omega]; exact K7), (by rw [show n = 0 by omega]; intro d h0 h1; exact absurd h1 (by show ¬ d < 0; omega)), K6⟩
          · refine rr_iload1 (pc := 23) B dX9_readsDeeds_23 ?_
            refine rr_bipush (z := 8) (pc := 24) B dX9_readsDeeds_24 (by decide) ?_
            refine rr_icmp_eq 42 (pc := 26) B dX9_readsDeeds_26 (by decide) (by omega) (fun b4 => ?_) (fun b4 => ?_)
            · have W := dq_f T (f := a) (n := n) K0.1 K0.2 (by omega) K2 (fun q => dq_kbad T K2 K4 (by rw [K3, ← bt_at (T := T) q]; omega)) (fun _ => by rw [K4]; omega)
              refine rr_iload2 (pc := 42) B dX9_readsDeeds_42 ?_
              refine rr_ireturn (pc := 43) B Br dX9_readsDeeds_43 ⟨congrArg (fun z => some (aI z)) ?_, ?_⟩
              · exact W.1.symm
              · refine ⟨(show M1 9 2 = dq T n 0 6 by rw [W.2]; exact K7), (by rw [W.2]; intro d h0 h1; omega), K6⟩
            · refine rr_aload0 (pc := 29) B dX9_readsDeeds_29 ?_
              refine rr_iconst (z := 0) (pc := 30) B dX9_readsDeeds_30 ?_
              refine rr_iload2 (pc := 31) B dX9_readsDeeds_31 ?_
              refine rc_VI2 (pc := 32) B dX9_readsDeeds_32 vm_X9_byteAt lk_9_111 so_9 rfl (ct_X9_byteAt _ _ _ _ _ _ (by omega) (by omega) (by exact E45) (by exact E46)) (Nat.le_of_ble_eq_true rfl) (Nat.le_of_ble_eq_true rfl) ?_
              refine rc_SI1 (pc := 35) B dX9_readsDeeds_35 st_X9_kindBy lk_9_115 (ct_X9_kindBy _ _ _  (by have := TB a (by omega); omega)) (Nat.le_of_ble_eq_true rfl) (Nat.le_of_ble_eq_true rfl) ?_
              refine rr_iconst (z := (-1)) (pc := 38) B dX9_readsDeeds_38 ?_
              refine rr_icmp_ne 44 (pc := 39) B dX9_readsDeeds_39 (by decide) (by have := kV_r (btT T n a); omega) (fun b5 => ?_) (fun b5 => ?_)
              · have A0 := bt_in (T := T) (n := n) (k := a) (fun e => ‹kV (btT T n a) ≠ -1› (by rw [e]; rfl))
                have Q0 := dq_head T K0.1 K2 K3 (by omega) K4 (by rw [← A0.2]; assumption)
                refine rr_aload0 (pc := 44) B dX9_readsDeeds_44 ?_
                refine rr_iconst (z := 0) (pc := 45) B dX9_readsDeeds_45 ?_
                refine rr_iload2 (pc := 46) B dX9_readsDeeds_46 ?_
                refine rr_iconst (z := 1) (pc := 47) B dX9_readsDeeds_47 ?_
                refine rr_iadd (pc := 48) B dX9_readsDeeds_48 ?_
                refine rc_VI2 (pc := 49) B dX9_readsDeeds_49 vm_X9_byteAt lk_9_111 so_9 rfl (ct_X9_byteAt _ _ _ _ _ _ (by omega) (by omega) (by exact E45) (by exact E46)) (Nat.le_of_ble_eq_true rfl) (Nat.le_of_ble_eq_true rfl) ?_
                refine rr_bipush (z := 48) (pc := 52) B dX9_readsDeeds_52 (by decide) ?_
                refine rr_bipush (z := 53) (pc := 54) B dX9_readsDeeds_54 (by decide) ?_
                refine rc_SI3 (pc := 56) B dX9_readsDeeds_56 st_X9_in lk_9_103 (ct_X9_in _ _ _ _ _  (by have := TB (a + 1) (by omega); omega)) (Nat.le_of_ble_eq_true rfl) (Nat.le_of_ble_eq_true rfl) ?_
                refine rr_if_neB 66 (pc := 59) B dX9_readsDeeds_59 (by decide) (fun b6 => ?_) (fun b6 => ?_)
                · replace b6 := of_decide_eq_true b6
                  have A1 := bt_in (T := T) (n := n) (k := a + 1) (by omega)
                  have A1v : fgV (T (a + 1)) 0 5 = T (a + 1) - 48 := by unfold fgV; rw [if_pos]; rw [← A1.2]; omega
                  have Q1 := Q0.2 (by rw [A1v, ← A1.2]; omega)
                  refine rr_aload0 (pc := 66) B dX9_readsDeeds_66 ?_
                  refine rr_iconst (z := 0) (pc := 67) B dX9_readsDeeds_67 ?_
                  refine rr_iload2 (pc := 68) B dX9_readsDeeds_68 ?_
                  refine rr_iconst (z := 2) (pc := 69) B dX9_readsDeeds_69 ?_
                  refine rr_iadd (pc := 70) B dX9_readsDeeds_70 ?_
                  refine rc_VI2 (pc := 71) B dX9_readsDeeds_71 vm_X9_byteAt lk_9_111 so_9 rfl (ct_X9_byteAt _ _ _ _ _ _ (by omega) (by omega) (by exact E45) (by exact E46)) (Nat.le_of_ble_eq_true rfl) (Nat.le_of_ble_eq_true rfl) ?_
                  refine rr_istore3 (pc := 74) B dX9_readsDeeds_74 rfl ?_
                  refine rr_iload3 (pc := 75) B dX9_readsDeeds_75 ?_
                  refine rr_bipush (z := 114) (pc := 76) B dX9_readsDeeds_76 (by decide) ?_
                  refine rr_icmp_eq 91 (pc := 78) B dX9_readsDeeds_78 (by decide) (by have := TB (a + 2) (by omega); omega) (fun b7 => ?_) (fun b7 => ?_)
                  · have A2 := bt_in (T := T) (n := n) (k := a + 2) (by omega)
                    have A2v : wtV (T (a + 2)) = if btT T n (a + 2) = 114 then 1 else 0 := by
                      unfold wtV
                      rw [← A2.2]
                      by_cases q : btT T n (a + 2) = 114
                      · rw [if_pos q, if_pos q]
                      · rw [if_neg q, if_neg q, if_pos (by omega)]
                    have Q2 := Q1.2 (by rw [A2v]; split <;> omega)
                    refine rr_aload0 (pc := 91) B dX9_readsDeeds_91 ?_
                    refine rr_iconst (z := 0) (pc := 92) B dX9_readsDeeds_92 ?_
                    refine rr_iload2 (pc := 93) B dX9_readsDeeds_93 ?_
                    refine rr_iconst (z := 3) (pc := 94) B dX9_readsDeeds_94 ?_
                    refine rr_iadd (pc := 95) B dX9_readsDeeds_95 ?_
                    refine rc_VI2 (pc := 96) B dX9_readsDeeds_96 vm_X9_byteAt lk_9_111 so_9 rfl (ct_X9_byteAt _ _ _ _ _ _ (by omega) (by omega) (by exact E45) (by exact E46)) (Nat.le_of_ble_eq_true rfl) (Nat.le_of_ble_eq_true rfl) ?_
                    refine rr_bipush (z := 49) (pc := 99) B dX9_readsDeeds_99 (by decide) ?_
                    refine rr_bipush (z := 57) (pc := 101) B dX9_readsDeeds_101 (by decide) ?_
                    refine rc_SI3 (pc := 103) B dX9_readsDeeds_103 st_X9_in lk_9_103 (ct_X9_in _ _ _ _ _  (by have := TB (a + 3) (by omega); omega)) (Nat.le_of_ble_eq_true rfl) (Nat.le_of_ble_eq_true rfl) ?_
                    refine rr_if_neB 113 (pc := 106) B dX9_readsDeeds_106 (by decide) (fun b8 => ?_) (fun b8 => ?_)
                    · replace b8 := of_decide_eq_true b8
                      have A3 := bt_in (T := T) (n := n) (k := a + 3) (by omega)
                      have A3v : fgV (T (a + 3)) 1 9 = T (a + 3) - 48 := by unfold fgV; rw [if_pos]; rw [← A3.2]; omega
                      have Q3 := Q2.2 (by rw [A3v, ← A3.2]; omega)
                      refine rr_aload0 (pc := 113) B dX9_readsDeeds_113 ?_
                      refine rr_getR (pc := 114) B dX9_readsDeeds_114 fl_9_16 or_9_3 ?_
                      refine rr_iload1 (pc := 117) B dX9_readsDeeds_117 ?_
                      refine rr_aload0 (pc := 118) B dX9_readsDeeds_118 ?_
                      refine rr_iconst (z := 0) (pc := 119) B dX9_readsDeeds_119 ?_
                      refine rr_iload2 (pc := 120) B dX9_readsDeeds_120 ?_
                      refine rc_VI2 (pc := 121) B dX9_readsDeeds_121 vm_X9_byteAt lk_9_111 so_9 rfl (ct_X9_byteAt _ _ _ _ _ _ (by omega) (by omega) (by exact E45) (by exact E46)) (Nat.le_of_ble_eq_true rfl) (Nat.le_of_ble_eq_true rfl) ?_
                      refine rc_SI1 (pc := 124) B dX9_readsDeeds_124 st_X9_kindBy lk_9_115 (ct_X9_kindBy _ _ _  (by have := TB a (by omega); omega)) (Nat.le_of_ble_eq_true rfl) (Nat.le_of_ble_eq_true rfl) ?_
                      refine rr_iastore (pc := 127) B dX9_readsDeeds_127 sa_47 (by omega) (by have := kV_r (btT T n a); omega) ?_
                      refine rr_aload0 (pc := 128) B dX9_readsDeeds_128 ?_
                      refine rr_getR (pc := 129) B dX9_readsDeeds_129 fl_9_19 or_9_4 ?_
                      refine rr_iload1 (pc := 132) B dX9_readsDeeds_132 ?_
                      refine rr_aload0 (pc := 133) B dX9_readsDeeds_133 ?_
                      refine rr_iconst (z := 0) (pc := 134) B dX9_readsDeeds_134 ?_
                      refine rr_iload2 (pc := 135) B dX9_readsDeeds_135 ?_
                      refine rr_iconst (z := 1) (pc := 136) B dX9_readsDeeds_136 ?_
                      refine rr_iadd (pc := 137) B dX9_readsDeeds_137 ?_
                      refine rc_VI2 (pc := 138) B dX9_readsDeeds_138 vm_X9_byteAt lk_9_111 so_9 rfl (ct_X9_byteAt _ _ _ _ _ _ (by omega) (by omega) (by exact E45) (by exact E46)) (Nat.le_of_ble_eq_true rfl) (Nat.le_of_ble_eq_true rfl) ?_
                      refine rr_bipush (z := 48) (pc := 141) B dX9_readsDeeds_141 (by decide) ?_
                      refine rr_isub (pc := 143) B dX9_readsDeeds_143 ?_
                      refine rr_iastore (pc := 144) B dX9_readsDeeds_144 sa_48 (by omega) (by have := TB (a + 1) (by omega); omega) ?_
                      refine rr_aload0 (pc := 145) B dX9_readsDeeds_145 ?_
                      refine rr_getR (pc := 146) B dX9_readsDeeds_146 fl_9_22 or_9_5 ?_
                      refine rr_iload1 (pc := 149) B dX9_readsDeeds_149 ?_
                      refine rr_iload3 (pc := 150) B dX9_readsDeeds_150 ?_
                      refine rr_bipush (z := 114) (pc := 151) B dX9_readsDeeds_151 (by decide) ?_
                      refine rr_icmp_ne 160 (pc := 153) B dX9_readsDeeds_153 (by decide) (by have := TB (a + 2) (by omega); omega) (fun b9 => ?_) (fun b9 => ?_)
                      · refine rr_iconst (z := 0) (pc := 160) B dX9_readsDeeds_160 ?_
                        refine rr_iastore (pc := 161) B dX9_readsDeeds_161 sa_49 (by omega) (by omega) ?_
                        refine rr_aload0 (pc := 162) B dX9_readsDeeds_162 ?_
                        refine rr_getR (pc := 163) B dX9_readsDeeds_163 fl_9_25 or_9_6 ?_
                        refine rr_iload1 (pc := 166) B dX9_readsDeeds_166 ?_
                        refine rr_aload0 (pc := 167) B dX9_readsDeeds_167 ?_
                        refine rr_iconst (z := 0) (pc := 168) B dX9_readsDeeds_168 ?_
                        refine rr_iload2 (pc := 169) B dX9_readsDeeds_169 ?_
                        refine rr_iconst (z := 3) (pc := 170) B dX9_readsDeeds_170 ?_
                        refine rr_iadd (pc := 171) B dX9_readsDeeds_171 ?_
                        refine rc_VI2 (pc := 172) B dX9_readsDeeds_172 vm_X9_byteAt lk_9_111 so_9 rfl (ct_X9_byteAt _ _ _ _ _ _ (by omega) (by omega) (by exact E45) (by exact E46)) (Nat.le_of_ble_eq_true rfl) (Nat.le_of_ble_eq_true rfl) ?_
                        refine rr_bipush (z := 48) (pc := 175) B dX9_readsDeeds_175 (by decide) ?_
                        refine rr_isub (pc := 177) B dX9_readsDeeds_177 ?_
                        refine rr_iastore (pc := 178) B dX9_readsDeeds_178 sa_50 (by omega) (by have := TB (a + 3) (by omega); omega) ?_
                        refine rr_aload0 (pc := 179) B dX9_readsDeeds_179 ?_
                        refine rr_getR (pc := 180) B dX9_readsDeeds_180 fl_9_28 or_9_7 ?_
                        refine rr_iload1 (pc := 183) B dX9_readsDeeds_183 ?_
                        refine rr_iconst (z := 0) (pc := 184) B dX9_readsDeeds_184 ?_
                        refine rr_iastore (pc := 185) B dX9_readsDeeds_185 sa_51 (by omega) (by omega) ?_
                        refine rr_iinc2 (z := 4) (pc := 186) B dX9_readsDeeds_186 rfl ?_
                        refine ih.2.1 _ _ _ _ _ ?_ ?_ ?_ ?_ ?_ ?_ ?_ ?_ ?_ ?_
                        · omega
                        · omega
                        · exact Q3.1
                        · exact Q3.2.1
                        · exact Q3.2.2.1
                        · intro d h0 h1
                          have k5 := K5 d h0 h1
                          rw [Q3.2.2.2.1, Q3.2.2.2.2.1, Q3.2.2.2.2.2.1, Q3.2.2.2.2.2.2.1, Q3.2.2.2.2.2.2.2, if_neg (by omega), if_neg (by omega), if_neg (by omega), if_neg (by omega), if_neg (by omega)]
                          simp only [ms, show ¬ d = n1 by omega, and_false, if_false]
                          exact k5
                        · rw [Q3.2.2.2.1, Q3.2.2.2.2.1, Q3.2.2.2.2.2.1, Q3.2.2.2.2.2.2.1, Q3.2.2.2.2.2.2.2, if_pos rfl, if_pos rfl, if_pos rfl, if_pos rfl, if_pos rfl, A1v, A2v, A3v, ← A0.2, ← A1.2, ← A3.2]
                          refine ⟨by simp [ms], by simp [ms], ?_, by simp [ms], by simp [ms]⟩
                          first | (rw [if_pos (by assumption)]; simp [ms]; done) | (rw [if_neg (by assumption)]; simp [ms]; done)
                        · exact frm_ms (frm_ms (frm_ms (frm_ms (frm_ms K6 (by simp [exD])) (by simp [exD])) (by simp [exD])) (by simp [exD])) (by simp [exD])
                        · exact K7
                        · omega
                      · refine rr_iconst (z := 1) (pc := 156) B dX9_readsDeeds_156 ?_
                        refine rr_goto 161 (pc := 157) B dX9_readsDeeds_157 (by decide) ?_
                        refine rr_iastore (pc := 161) B dX9_readsDeeds_161 sa_49 (by omega) (by omega) ?_
                        refine rr_aload0 (pc := 162) B dX9_readsDeeds_162 ?_
                        refine rr_getR (pc := 163) B dX9_readsDeeds_163 fl_9_25 or_9_6 ?_
                        refine rr_iload1 (pc := 166) B dX9_readsDeeds_166 ?_
                        refine rr_aload0 (pc := 167) B dX9_readsDeeds_167 ?_
                        refine rr_iconst (z := 0) (pc := 168) B dX9_readsDeeds_168 ?_
                        refine rr_iload2 (pc := 169) B dX9_readsDeeds_169 ?_
                        refine rr_iconst (z := 3) (pc := 170) B dX9_readsDeeds_170 ?_
                        refine rr_iadd (pc := 171) B dX9_readsDeeds_171 ?_
                        refine rc_VI2 (pc := 172) B dX9_readsDeeds_172 vm_X9_byteAt lk_9_111 so_9 rfl (ct_X9_byteAt _ _ _ _ _ _ (by omega) (by omega) (by exact E45) (by exact E46)) (Nat.le_of_ble_eq_true rfl) (Nat.le_of_ble_eq_true rfl) ?_
                        refine rr_bipush (z := 48) (pc := 175) B dX9_readsDeeds_175 (by decide) ?_
                        refine rr_isub (pc := 177) B dX9_readsDeeds_177 ?_
                        refine rr_iastore (pc := 178) B dX9_readsDeeds_178 sa_50 (by omega) (by have := TB (a + 3) (by omega); omega) ?_
                        refine rr_aload0 (pc := 179) B dX9_readsDeeds_179 ?_
                        refine rr_getR (pc := 180) B dX9_readsDeeds_180 fl_9_28 or_9_7 ?_
                        refine rr_iload1 (pc := 183) B dX9_readsDeeds_183 ?_
                        refine rr_iconst (z := 0) (pc := 184) B dX9_readsDeeds_184 ?_
                        refine rr_iastore (pc := 185) B dX9_readsDeeds_185 sa_51 (by omega) (by omega) ?_
                        refine rr_iinc2 (z := 4) (pc := 186) B dX9_readsDeeds_186 rfl ?_
                        refine ih.2.1 _ _ _ _ _ ?_ ?_ ?_ ?_ ?_ ?_ ?_ ?_ ?_ ?_
                        · omega
                        · omega
                        · exact Q3.1
                        · exact Q3.2.1
                        · exact Q3.2.2.1
                        · intro d h0 h1
                          have k5 := K5 d h0 h1
                          rw [Q3.2.2.2.1, Q3.2.2.2.2.1, Q3.2.2.2.2.2.1, Q3.2.2.2.2.2.2.1, Q3.2.2.2.2.2.2.2, if_neg (by omega), if_neg (by omega), if_neg (by omega), if_neg (by omega), if_neg (by omega)]
                          simp only [ms, show ¬ d = n1 by omega, and_false, if_false]
                          exact k5
                        · rw [Q3.2.2.2.1, Q3.2.2.2.2.1, Q3.2.2.2.2.2.1, Q3.2.2.2.2.2.2.1, Q3.2.2.2.2.2.2.2, if_pos rfl, if_pos rfl, if_pos rfl, if_pos rfl, if_pos rfl, A1v, A2v, A3v, ← A0.2, ← A1.2, ← A3.2]
                          refine ⟨by simp [ms], by simp [ms], ?_, by simp [ms], by simp [ms]⟩
                          first | (rw [if_pos (by assumption)]; simp [ms]; done) | (rw [if_neg (by assumption)]; simp [ms]; done)
                        · exact frm_ms (frm_ms (frm_ms (frm_ms (frm_ms K6 (by simp [exD])) (by simp [exD])) (by simp [exD])) (by simp [exD])) (by simp [exD])
                        · exact K7
                        · omega
                    · replace b8 := of_decide_eq_false b8
                      have W := dq_f T (f := a + 3) (n := n) (by omega) (by omega) (by omega) Q2.1.1 (fun q => by rw [Q2.1.2.2]; refine decide_eq_false (fun z => z ?_); unfold fgV; rw [if_neg]; rw [← bt_at (T := T) q]; omega) (fun _ => by rw [Q2.1.2.1]; omega)
                      refine rr_iload2 (pc := 109) B dX9_readsDeeds_109 ?_
                      refine rr_iconst (z := 3) (pc := 110) B dX9_readsDeeds_110 ?_
                      refine rr_iadd (pc := 111) B dX9_readsDeeds_111 ?_
                      refine rr_ireturn (pc := 112) B Br dX9_readsDeeds_112 ⟨congrArg (fun z => some (aI z)) ?_, ?_⟩
                      · exact W.1.symm
                      · refine ⟨(show M1 9 2 = dq T n 0 6 by rw [W.2]; exact K7), (by rw [W.2]; intro d h0 h1; omega), K6⟩
                  · refine rr_iload3 (pc := 81) B dX9_readsDeeds_81 ?_
                    refine rr_bipush (z := 100) (pc := 82) B dX9_readsDeeds_82 (by decide) ?_
                    refine rr_icmp_eq 91 (pc := 84) B dX9_readsDeeds_84 (by decide) (by have := TB (a + 2) (by omega); omega) (fun b8 => ?_) (fun b8 => ?_)
                    · have A2 := bt_in (T := T) (n := n) (k := a + 2) (by omega)
                      have A2v : wtV (T (a + 2)) = if btT T n (a + 2) = 114 then 1 else 0 := by
                        unfold wtV
                        rw [← A2.2]
                        by_cases q : btT T n (a + 2) = 114
                        · rw [if_pos q, if_pos q]
                        · rw [if_neg q, if_neg q, if_pos (by omega)]
                      have Q2 := Q1.2 (by rw [A2v]; split <;> omega)
                      refine rr_aload0 (pc := 91) B dX9_readsDeeds_91 ?_
                      refine rr_iconst (z := 0) (pc := 92) B dX9_readsDeeds_92 ?_
                      refine rr_iload2 (pc := 93) B dX9_readsDeeds_93 ?_
                      refine rr_iconst (z := 3) (pc := 94) B dX9_readsDeeds_94 ?_
                      refine rr_iadd (pc := 95) B dX9_readsDeeds_95 ?_
                      refine rc_VI2 (pc := 96) B dX9_readsDeeds_96 vm_X9_byteAt lk_9_111 so_9 rfl (ct_X9_byteAt _ _ _ _ _ _ (by omega) (by omega) (by exact E45) (by exact E46)) (Nat.le_of_ble_eq_true rfl) (Nat.le_of_ble_eq_true rfl) ?_
                      refine rr_bipush (z := 49) (pc := 99) B dX9_readsDeeds_99 (by decide) ?_
                      refine rr_bipush (z := 57) (pc := 101) B dX9_readsDeeds_101 (by decide) ?_
                      refine rc_SI3 (pc := 103) B dX9_readsDeeds_103 st_X9_in lk_9_103 (ct_X9_in _ _ _ _ _  (by have := TB (a + 3) (by omega); omega)) (Nat.le_of_ble_eq_true rfl) (Nat.le_of_ble_eq_true rfl) ?_
                      refine rr_if_neB 113 (pc := 106) B dX9_readsDeeds_106 (by decide) (fun b9 => ?_) (fun b9 => ?_)
                      · replace b9 := of_decide_eq_true b9
                        have A3 := bt_in (T := T) (n := n) (k := a + 3) (by omega)
                        have A3v : fgV (T (a + 3)) 1 9 = T (a + 3) - 48 := by unfold fgV; rw [if_pos]; rw [← A3.2]; omega
                        have Q3 := Q2.2 (by rw [A3v, ← A3.2]; omega)
                        refine rr_aload0 (pc := 113) B dX9_readsDeeds_113 ?_
                        refine rr_getR (pc := 114) B dX9_readsDeeds_114 fl_9_16 or_9_3 ?_
                        refine rr_iload1 (pc := 117) B dX9_readsDeeds_117 ?_
                        refine rr_aload0 (pc := 118) B dX9_readsDeeds_118 ?_
                        refine rr_iconst (z := 0) (pc := 119) B dX9_readsDeeds_119 ?_
                        refine rr_iload2 (pc := 120) B dX9_readsDeeds_120 ?_
                        refine rc_VI2 (pc := 121) B dX9_readsDeeds_121 vm_X9_byteAt lk_9_111 so_9 rfl (ct_X9_byteAt _ _ _ _ _ _ (by omega) (by omega) (by exact E45) (by exact E46)) (Nat.le_of_ble_eq_true rfl) (Nat.le_of_ble_eq_true rfl) ?_
                        refine rc_SI1 (pc := 124) B dX9_readsDeeds_124 st_X9_kindBy lk_9_115 (ct_X9_kindBy _ _ _  (by have := TB a (by omega); omega)) (Nat.le_of_ble_eq_true rfl) (Nat.le_of_ble_eq_true rfl) ?_
                        refine rr_iastore (pc := 127) B dX9_readsDeeds_127 sa_47 (by omega) (by have := kV_r (btT T n a); omega) ?_
                        refine rr_aload0 (pc := 128) B dX9_readsDeeds_128 ?_
                        refine rr_getR (pc := 129) B dX9_readsDeeds_129 fl_9_19 or_9_4 ?_
                        refine rr_iload1 (pc := 132) B dX9_readsDeeds_132 ?_
                        refine rr_aload0 (pc := 133) B dX9_readsDeeds_133 ?_
                        refine rr_iconst (z := 0) (pc := 134) B dX9_readsDeeds_134 ?_
                        refine rr_iload2 (pc := 135) B dX9_readsDeeds_135 ?_
                        refine rr_iconst (z := 1) (pc := 136) B dX9_readsDeeds_136 ?_
                        refine rr_iadd (pc := 137) B dX9_readsDeeds_137 ?_
                        refine rc_VI2 (pc := 138) B dX9_readsDeeds_138 vm_X9_byteAt lk_9_111 so_9 rfl (ct_X9_byteAt _ _ _ _ _ _ (by omega) (by omega) (by exact E45) (by exact E46)) (Nat.le_of_ble_eq_true rfl) (Nat.le_of_ble_eq_true rfl) ?_
                        refine rr_bipush (z := 48) (pc := 141) B dX9_readsDeeds_141 (by decide) ?_
                        refine rr_isub (pc := 143) B dX9_readsDeeds_143 ?_
                        refine rr_iastore (pc := 144) B dX9_readsDeeds_144 sa_48 (by omega) (by have := TB (a + 1) (by omega); omega) ?_
                        refine rr_aload0 (pc := 145) B dX9_readsDeeds_145 ?_
                        refine rr_getR (pc := 146) B dX9_readsDeeds_146 fl_9_22 or_9_5 ?_
                        refine rr_iload1 (pc := 149) B dX9_readsDeeds_149 ?_
                        refine rr_iload3 (pc := 150) B dX9_readsDeeds_150 ?_
                        refine rr_bipush (z := 114) (pc := 151) B dX9_readsDeeds_151 (by decide) ?_
                        refine rr_icmp_ne 160 (pc := 153) B dX9_readsDeeds_153 (by decide) (by have := TB (a + 2) (by omega); omega) (fun b10 => ?_) (fun b10 => ?_)
                        · refine rr_iconst (z := 0) (pc := 160) B dX9_readsDeeds_160 ?_
                          refine rr_iastore (pc := 161) B dX9_readsDeeds_161 sa_49 (by omega) (by omega) ?_
                          refine rr_aload0 (pc := 162) B dX9_readsDeeds_162 ?_
                          refine rr_getR (pc := 163) B dX9_readsDeeds_163 fl_9_25 or_9_6 ?_
                          refine rr_iload1 (pc := 166) B dX9_readsDeeds_166 ?_
                          refine rr_aload0 (pc := 167) B dX9_readsDeeds_167 ?_
                          refine rr_iconst (z := 0) (pc := 168) B dX9_readsDeeds_168 ?_
                          refine rr_iload2 (pc := 169) B dX9_readsDeeds_169 ?_
                          refine rr_iconst (z := 3) (pc := 170) B dX9_readsDeeds_170 ?_
                          refine rr_iadd (pc := 171) B dX9_readsDeeds_171 ?_
                          refine rc_VI2 (pc := 172) B dX9_readsDeeds_172 vm_X9_byteAt lk_9_111 so_9 rfl (ct_X9_byteAt _ _ _ _ _ _ (by omega) (by omega) (by exact E45) (by exact E46)) (Nat.le_of_ble_eq_true rfl) (Nat.le_of_ble_eq_true rfl) ?_
                          refine rr_bipush (z := 48) (pc := 175) B dX9_readsDeeds_175 (by decide) ?_
                          refine rr_isub (pc := 177) B dX9_readsDeeds_177 ?_
                          refine rr_iastore (pc := 178) B dX9_readsDeeds_178 sa_50 (by omega) (by have := TB (a + 3) (by omega); omega) ?_
                          refine rr_aload0 (pc := 179) B dX9_readsDeeds_179 ?_
                          refine rr_getR (pc := 180) B dX9_readsDeeds_180 fl_9_28 or_9_7 ?_
                          refine rr_iload1 (pc := 183) B dX9_readsDeeds_183 ?_
                          refine rr_iconst (z := 0) (pc := 184) B dX9_readsDeeds_184 ?_
                          refine rr_iastore (pc := 185) B dX9_readsDeeds_185 sa_51 (by omega) (by omega) ?_
                          refine rr_iinc2 (z := 4) (pc := 186) B dX9_readsDeeds_186 rfl ?_
                          refine ih.2.1 _ _ _ _ _ ?_ ?_ ?_ ?_ ?_ ?_ ?_ ?_ ?_ ?_
                          · omega
                          · omega
                          · exact Q3.1
                          · exact Q3.2.1
                          · exact Q3.2.2.1
                          · intro d h0 h1
                            have k5 := K5 d h0 h1
                            rw [Q3.2.2.2.1, Q3.2.2.2.2.1, Q3.2.2.2.2.2.1, Q3.2.2.2.2.2.2.1, Q3.2.2.2.2.2.2.2, if_neg (by omega), if_neg (by omega), if_neg (by omega), if_neg (by omega), if_neg (by omega)]
                            simp only [ms, show ¬ d = n1 by omega, and_false, if_false]
                            exact k5
                          · rw [Q3.2.2.2.1, Q3.2.2.2.2.1, Q3.2.2.2.2.2.1, Q3.2.2.2.2.2.2.1, Q3.2.2.2.2.2.2.2, if_pos rfl, if_pos rfl, if_pos rfl, if_pos rfl, if_pos rfl, A1v, A2v, A3v, ← A0.2, ← A1.2, ← A3.2]
                            refine ⟨by simp [ms], by simp [ms], ?_, by simp [ms], by simp [ms]⟩
                            first | (rw [if_pos (by assumption)]; simp [ms]; done) | (rw [if_neg (by assumption)]; simp [ms]; done)
                          · exact frm_ms (frm_ms (frm_ms (frm_ms (frm_ms K6 (by simp [exD])) (by simp [exD])) (by simp [exD])) (by simp [exD])) (by simp [exD])
                          · exact K7
                          · omega
                        · refine rr_iconst (z := 1) (pc := 156) B dX9_readsDeeds_156 ?_
                          refine rr_goto 161 (pc := 157) B dX9_readsDeeds_157 (by decide) ?_
                          refine rr_iastore (pc := 161) B dX9_readsDeeds_161 sa_49 (by omega) (by omega) ?_
                          refine rr_aload0 (pc := 162) B dX9_readsDeeds_162 ?_
                          refine rr_getR (pc := 163) B dX9_readsDeeds_163 fl_9_25 or_9_6 ?_
                          refine rr_iload1 (pc := 166) B dX9_readsDeeds_166 ?_
                          refine rr_aload0 (pc := 167) B dX9_readsDeeds_167 ?_
                          refine rr_iconst (z := 0) (pc := 168) B dX9_readsDeeds_168 ?_
                          refine rr_iload2 (pc := 169) B dX9_readsDeeds_169 ?_
                          refine rr_iconst (z := 3) (pc := 170) B dX9_readsDeeds_170 ?_
                          refine rr_iadd (pc := 171) B dX9_readsDeeds_171 ?_
                          refine rc_VI2 (pc := 172) B dX9_readsDeeds_172 vm_X9_byteAt lk_9_111 so_9 rfl (ct_X9_byteAt _ _ _ _ _ _ (by omega) (by omega) (by exact E45) (by exact E46)) (Nat.le_of_ble_eq_true rfl) (Nat.le_of_ble_eq_true rfl) ?_
                          refine rr_bipush (z := 48) (pc := 175) B dX9_readsDeeds_175 (by decide) ?_
                          refine rr_isub (pc := 177) B dX9_readsDeeds_177 ?_
                          refine rr_iastore (pc := 178) B dX9_readsDeeds_178 sa_50 (by omega) (by have := TB (a + 3) (by omega); omega) ?_
                          refine rr_aload0 (pc := 179) B dX9_readsDeeds_179 ?_
                          refine rr_getR (pc := 180) B dX9_readsDeeds_180 fl_9_28 or_9_7 ?_
                          refine rr_iload1 (pc := 183) B dX9_readsDeeds_183 ?_
                          refine rr_iconst (z := 0) (pc := 184) B dX9_readsDeeds_184 ?_
                          refine rr_iastore (pc := 185) B dX9_readsDeeds_185 sa_51 (by omega) (by omega) ?_
                          refine rr_iinc2 (z := 4) (pc := 186) B dX9_readsDeeds_186 rfl ?_
                          refine ih.2.1 _ _ _ _ _ ?_ ?_ ?_ ?_ ?_ ?_ ?_ ?_ ?_ ?_
                          · omega
                          · omega
                          · exact Q3.1
                          · exact Q3.2.1
                          · exact Q3.2.2.1
                          · intro d h0 h1
                            have k5 := K5 d h0 h1
                            rw [Q3.2.2.2.1, Q3.2.2.2.2.1, Q3.2.2.2.2.2.1, Q3.2.2.2.2.2.2.1, Q3.2.2.2.2.2.2.2, if_neg (by omega), if_neg (by omega), if_neg (by omega), if_neg (by omega), if_neg (by omega)]
                            simp only [ms, show ¬ d = n1 by omega, and_false, if_false]
                            exact k5
                          · rw [Q3.2.2.2.1, Q3.2.2.2.2.1, Q3.2.2.2.2.2.1, Q3.2.2.2.2.2.2.1, Q3.2.2.2.2.2.2.2, if_pos rfl, if_pos rfl, if_pos rfl, if_pos rfl, if_pos rfl, A1v, A2v, A3v, ← A0.2, ← A1.2, ← A3.2]
                            refine ⟨by simp [ms], by simp [ms], ?_, by simp [ms], by simp [ms]⟩
                            first | (rw [if_pos (by assumption)]; simp [ms]; done) | (rw [if_neg (by assumption)]; simp [ms]; done)
                          · exact frm_ms (frm_ms (frm_ms (frm_ms (frm_ms K6 (by simp [exD])) (by simp [exD])) (by simp [exD])) (by simp [exD])) (by simp [exD])
                          · exact K7
                          · omega
                      · replace b9 := of_decide_eq_false b9
                        have W := dq_f T (f := a + 3) (n := n) (by omega) (by omega) (by omega) Q2.1.1 (fun q => by rw [Q2.1.2.2]; refine decide_eq_false (fun z => z ?_); unfold fgV; rw [if_neg]; rw [← bt_at (T := T) q]; omega) (fun _ => by rw [Q2.1.2.1]; omega)
                        refine rr_iload2 (pc := 109) B dX9_readsDeeds_109 ?_
                        refine rr_iconst (z := 3) (pc := 110) B dX9_readsDeeds_110 ?_
                        refine rr_iadd (pc := 111) B dX9_readsDeeds_111 ?_
                        refine rr_ireturn (pc := 112) B Br dX9_readsDeeds_112 ⟨congrArg (fun z => some (aI z)) ?_, ?_⟩
                        · exact W.1.symm
                        · refine ⟨(show M1 9 2 = dq T n 0 6 by rw [W.2]; exact K7), (by rw [W.2]; intro d h0 h1; omega), K6⟩
                    · have W := dq_f T (f := a + 2) (n := n) (by omega) (by omega) (by omega) Q1.1.1 (fun q => by rw [Q1.1.2.2]; refine decide_eq_false (fun z => z ?_); unfold wtV; rw [← bt_at (T := T) q, if_neg (by omega), if_neg (by omega)]) (fun _ => by rw [Q1.1.2.1]; omega)
                      refine rr_iload2 (pc := 87) B dX9_readsDeeds_87 ?_
                      refine rr_iconst (z := 2) (pc := 88) B dX9_readsDeeds_88 ?_
                      refine rr_iadd (pc := 89) B dX9_readsDeeds_89 ?_
                      refine rr_ireturn (pc := 90) B Br dX9_readsDeeds_90 ⟨congrArg (fun z => some (aI z)) ?_, ?_⟩
                      · exact W.1.symm
                      · refine ⟨(show M1 9 2 = dq T n 0 6 by rw [W.2]; exact K7), (by rw [W.2]; intro d h0 h1; omega), K6⟩
                · replace b6 := of_decide_eq_false b6
                  have W := dq_f T (f := a + 1) (n := n) (by omega) (by omega) (by omega) Q0.1.1 (fun q => by rw [Q0.1.2.2]; refine decide_eq_false (fun z => z ?_); unfold fgV; rw [if_neg]; rw [← bt_at (T := T) q]; omega) (fun _ => by rw [Q0.1.2.1]; omega)
                  refine rr_iload2 (pc := 62) B dX9_readsDeeds_62 ?_
                  refine rr_iconst (z := 1) (pc := 63) B dX9_readsDeeds_63 ?_
                  refine rr_iadd (pc := 64) B dX9_readsDeeds_64 ?_
                  refine rr_ireturn (pc := 65) B Br dX9_readsDeeds_65 ⟨congrArg (fun z => some (aI z)) ?_, ?_⟩
                  · exact W.1.symm
                  · refine ⟨(show M1 9 2 = dq T n 0 6 by rw [W.2]; exact K7), (by rw [W.2]; intro d h0 h1; omega), K6⟩
              · have W := dq_f T (f := a) (n := n) K0.1 K0.2 (by omega) K2 (fun q => dq_kbad T K2 K4 (by rw [K3, ← bt_at (T := T) q]; omega)) (fun _ => by rw [K4]; omega)
                refine rr_iload2 (pc := 42) B dX9_readsDeeds_42 ?_
                refine rr_ireturn (pc := 43) B Br dX9_readsDeeds_43 ⟨congrArg (fun z => some (aI z)) ?_, ?_⟩
                · exact W.1.symm
                · refine ⟨(show M1 9 2 = dq T n 0 6 by rw [W.2]; exact K7), (by rw [W.2]; intro d h0 h1; omega), K6⟩
      · intro M1 n1 a r3 w4 K0 K1 K2 K3 K4 K5 K6 K7 K8 hm
        refine rr_rg (fun G1 => ?_)
        have E45 : M1 45 0 = n := (K7 45 0 rfl).trans H0
        have E46 : ∀ i, 0 ≤ i → i < n → M1 46 (80 * 0 + i) = T i := fun i h0 h1 => (K7 46 _ rfl).trans (H1 i h0 h1)
        refine rr_aload0 (pc := 189) B dX9_readsDeeds_189 ?_
        refine rr_iconst (z := 0) (pc := 190) B dX9_readsDeeds_190 ?_
        refine rr_iload2 (pc := 191) B dX9_readsDeeds_191 ?_
        refine rc_VI2 (pc := 192) B dX9_readsDeeds_192 vm_X9_byteAt lk_9_111 so_9 rfl (ct_X9_byteAt _ _ _ _ _ _ (by omega) (by omega) (by exact E45) (by exact E46)) (Nat.le_of_ble_eq_true rfl) (Nat.le_of_ble_eq_true rfl) ?_
        refine rr_bipush (z := 65) (pc := 195) B dX9_readsDeeds_195 (by decide) ?_
        refine rr_bipush (z := 72) (pc := 197) B dX9_readsDeeds_197 (by decide) ?_
        refine rc_SI3 (pc := 199) B dX9_readsDeeds_199 st_X9_in lk_9_103 (ct_X9_in _ _ _ _ _  (by have := TB a (by omega); omega)) (Nat.le_of_ble_eq_true rfl) (Nat.le_of_ble_eq_true rfl) ?_
        refine rr_if_eqB 251 (pc := 202) B dX9_readsDeeds_202 (by decide) (fun b1 => ?_) (fun b1 => ?_)
        · replace b1 := of_decide_eq_false b1
          refine rr_aload0 (pc := 251) B dX9_readsDeeds_251 ?_
          refine rr_getR (pc := 252) B dX9_readsDeeds_252 fl_9_28 or_9_7 ?_
          refine rr_iload1 (pc := 255) B dX9_readsDeeds_255 ?_
          refine rr_iaload (pc := 256) B dX9_readsDeeds_256 sa_51 (by omega) (fun b2 => ?_)
          refine rr_if_ne 262 (pc := 257) B dX9_readsDeeds_257 (by decide) (by omega) (fun b3 => ?_) (fun b3 => ?_)
          · refine rr_iinc1 (z := 1) (pc := 262) B dX9_readsDeeds_262 rfl ?_
            refine rr_iload2 (pc := 265) B dX9_readsDeeds_265 ?_
            refine rr_aload0 (pc := 266) B dX9_readsDeeds_266 ?_
            refine rr_getR (pc := 267) B dX9_readsDeeds_267 fl_9_7 or_9_0 ?_
            refine rr_iconst (z := 0) (pc := 270) B dX9_readsDeeds_270 ?_
            refine rr_ialoadE (pc := 271) B dX9_readsDeeds_271 sa_45 (by omega) (E45) (fun b4 => ?_)
            refine rr_icmp_ne 282 (pc := 272) B dX9_readsDeeds_272 (by decide) (by omega) (fun b5 => ?_) (fun b5 => ?_)
            · refine rr_aload0 (pc := 282) B dX9_readsDeeds_282 ?_
              refine rr_iconst (z := 0) (pc := 283) B dX9_readsDeeds_283 ?_
              refine rr_iload2 (pc := 284) B dX9_readsDeeds_284 ?_
              refine rc_VI2 (pc := 285) B dX9_readsDeeds_285 vm_X9_byteAt lk_9_111 so_9 rfl (ct_X9_byteAt _ _ _ _ _ _ (by omega) (by omega) (by exact E45) (by exact E46)) (Nat.le_of_ble_eq_true rfl) (Nat.le_of_ble_eq_true rfl) ?_
              refine rr_bipush (z := 59) (pc := 288) B dX9_readsDeeds_288 (by decide) ?_
              refine rr_icmp_eq 295 (pc := 290) B dX9_readsDeeds_290 (by decide) (by have := TB a (by omega); omega) (fun b6 => ?_) (fun b6 => ?_)
              · have A5 := bt_in (T := T) (n := n) (k := a) (by omega)
                have Q5 := dq_semi T (by omega) K2 K3 (by omega) K4 (by rw [← A5.2]; assumption) (by rw [← K6.2.2.2.2]; omega)
                refine rr_iinc2 (z := 1) (pc := 295) B dX9_readsDeeds_295 rfl ?_
                refine rr_goto 9 (pc := 298) B dX9_readsDeeds_298 (by decide) ?_
                refine ih.1 _ _ _ _ _ ?_ ?_ ?_ ?_ ?_ ?_ ?_ ?_ ?_
                · omega
                · omega
                · exact Q5.1
                · exact Q5.2.1
                · exact Q5.2.2.1
                · intro d h0 h1
                  rcases Int.lt_or_eq_of_le (show d ≤ n1 by omega) with q | q
                  · have k5 := K5 d h0 q
                    rw [Q5.2.2.2.1, Q5.2.2.2.2.1, Q5.2.2.2.2.2.1, Q5.2.2.2.2.2.2.1, Q5.2.2.2.2.2.2.2]
                    exact k5
                  · subst q
                    rw [Q5.2.2.2.1, Q5.2.2.2.2.1, Q5.2.2.2.2.2.1, Q5.2.2.2.2.2.2.1, Q5.2.2.2.2.2.2.2]
                    exact ⟨K6.1, K6.2.1, K6.2.2.1, K6.2.2.2.1, K6.2.2.2.2, by rw [← K6.2.2.2.2]; omega⟩
                · exact K7
                · exact K8
                · omega
              · have W := dq_f T (f := a) (n := n) (by omega) (by omega) (by omega) K2 (fun q => dq_bad T K2 K3 (by omega) K4 (by rw [← bt_at (T := T) q]; omega) (by rintro ⟨q1, q2⟩; rw [← bt_at (T := T) q] at q1; omega)) (fun e => by omega)
                refine rr_iload2 (pc := 293) B dX9_readsDeeds_293 ?_
                refine rr_ireturn (pc := 294) B Br dX9_readsDeeds_294 ⟨congrArg (fun z => some (aI z)) ?_, ?_⟩
                · exact W.1.symm
                · refine ⟨(show M1 9 2 = dq T n 0 6 by rw [W.2]; exact K8), (by rw [W.2]; intro d h0 h1; omega), K7⟩
            · have W := (dq_end T (n := n) (by omega) (by rw [← (show a = n by assumption)]; exact K2)).1 (by rw [← (show a = n by assumption), K3, K4, ← K6.2.2.2.2]; omega)
              refine rr_aload0 (pc := 275) B dX9_readsDeeds_275 ?_
              refine rr_iload1 (pc := 276) B dX9_readsDeeds_276 ?_
              refine rr_putI (pc := 277) B dX9_readsDeeds_277 fl_9_107 ob_9_2 fi_9_2 (by omega) ?_
              refine rr_iconst (z := (-1)) (pc := 280) B dX9_readsDeeds_280 ?_
              refine rr_ireturn (pc := 281) B Br dX9_readsDeeds_281 ⟨congrArg (fun z => some (aI z)) ?_, ?_⟩
              · exact W.1.symm
              · refine ⟨?_, ?_, frm_ms K7 rfl⟩
                · show n1 + 1 = dq T n 0 6
                  rw [W.2, ← (show a = n by assumption), K3]
                · rw [W.2, ← (show a = n by assumption), K3]
                  intro d h0 h1
                  rcases Int.lt_or_eq_of_le (show d ≤ n1 by omega) with q | q
                  · exact K5 d h0 q
                  · subst q
                    exact ⟨K6.1, K6.2.1, K6.2.2.1, K6.2.2.2.1, K6.2.2.2.2, by rw [← K6.2.2.2.2]; omega⟩
          · have W := dq_f T (f := a) (n := n) (by omega) (by omega) (by omega) K2 (fun q => dq_bad T K2 K3 (by omega) K4 (by rw [← K6.2.2.2.2]; omega) (by rintro ⟨q1, q2⟩; rw [← bt_at (T := T) q] at q1; omega)) (fun _ => by rw [K3, ← K6.2.2.2.2]; omega)
            refine rr_iload2 (pc := 260) B dX9_readsDeeds_260 ?_
            refine rr_ireturn (pc := 261) B Br dX9_readsDeeds_261 ⟨congrArg (fun z => some (aI z)) ?_, ?_⟩
            · exact W.1.symm
            · refine ⟨(show M1 9 2 = dq T n 0 6 by rw [W.2]; exact K8), (by rw [W.2]; intro d h0 h1; omega), K7⟩
        · replace b1 := of_decide_eq_true b1
          have A4 := bt_in (T := T) (n := n) (k := a) (by omega)
          refine rr_aload0 (pc := 205) B dX9_readsDeeds_205 ?_
          refine rr_iconst (z := 0) (pc := 206) B dX9_readsDeeds_206 ?_
          refine rr_iload2 (pc := 207) B dX9_readsDeeds_207 ?_
          refine rc_VI2 (pc := 208) B dX9_readsDeeds_208 vm_X9_byteAt lk_9_111 so_9 rfl (ct_X9_byteAt _ _ _ _ _ _ (by omega) (by omega) (by exact E45) (by exact E46)) (Nat.le_of_ble_eq_true rfl) (Nat.le_of_ble_eq_true rfl) ?_
          refine rr_bipush (z := 65) (pc := 211) B dX9_readsDeeds_211 (by decide) ?_
          refine rr_isub (pc := 213) B dX9_readsDeeds_213 ?_
          refine rr_istore4 (pc := 214) B dX9_readsDeeds_214 rfl ?_
          refine rr_aload0 (pc := 216) B dX9_readsDeeds_216 ?_
          refine rr_getR (pc := 217) B dX9_readsDeeds_217 fl_9_28 or_9_7 ?_
          refine rr_iload1 (pc := 220) B dX9_readsDeeds_220 ?_
          refine rr_iaload (pc := 221) B dX9_readsDeeds_221 sa_51 (by omega) (fun b2 => ?_)
          refine rr_iload4 (pc := 222) B dX9_readsDeeds_222 ?_
          refine rc_SI2 (pc := 224) B dX9_readsDeeds_224 st_X9_isIn lk_9_119 (ct_X9_isIn _ _ _ _  (by omega) (by omega)) (Nat.le_of_ble_eq_true rfl) (Nat.le_of_ble_eq_true rfl) ?_
          refine rr_if_eqB 232 (pc := 227) B dX9_readsDeeds_227 (by decide) (fun b3 => ?_) (fun b3 => ?_)
          · have Q4 := dq_who T (by omega) K2 K3 (by omega) K4 (by rw [← A4.2]; assumption) (by rw [← A4.2, ← K6.2.2.2.2]; assumption)
            refine rr_aload0 (pc := 232) B dX9_readsDeeds_232 ?_
            refine rr_getR (pc := 233) B dX9_readsDeeds_233 fl_9_28 or_9_7 ?_
            refine rr_iload1 (pc := 236) B dX9_readsDeeds_236 ?_
            refine rr_dup2 (pc := 237) B dX9_readsDeeds_237 rfl rfl ?_
            refine rr_iaload (pc := 238) B dX9_readsDeeds_238 sa_51 (by omega) (fun b4 => ?_)
            refine rr_iconst (z := 1) (pc := 239) B dX9_readsDeeds_239 ?_
            refine rr_iload4 (pc := 240) B dX9_readsDeeds_240 ?_
            refine rr_shl1 (pc := 242) B dX9_readsDeeds_242 (by omega) (fun b5 => ?_)
            refine rr_orN 8 (pc := 243) B dX9_readsDeeds_243 (by decide) (by have q2 := p2_le (a := btT T n a - 65) (b := 7) (by omega); have q3 : p2 7 = 128 := rfl; omega) (fun b6 => ?_)
            refine rr_iastore (pc := 244) B dX9_readsDeeds_244 sa_51 (by omega) (by omega) ?_
            refine rr_iinc2 (z := 1) (pc := 245) B dX9_readsDeeds_245 rfl ?_
            refine rr_goto 189 (pc := 248) B dX9_readsDeeds_248 (by decide) ?_
            refine ih.2.1 _ _ _ _ _ ?_ ?_ ?_ ?_ ?_ ?_ ?_ ?_ ?_ ?_
            · omega
            · omega
            · exact Q4.1
            · exact Q4.2.1
            · exact Q4.2.2.1
            · intro d h0 h1
              have k5 := K5 d h0 h1
              rw [Q4.2.2.2.1, Q4.2.2.2.2.1, Q4.2.2.2.2.2.1, Q4.2.2.2.2.2.2.1, Q4.2.2.2.2.2.2.2, if_neg (by omega)]
              simp only [ms, show ¬ d = n1 by omega, and_false, if_false]
              exact k5
            · rw [Q4.2.2.2.1, Q4.2.2.2.2.1, Q4.2.2.2.2.2.1, Q4.2.2.2.2.2.2.1, Q4.2.2.2.2.2.2.2, if_pos rfl, ← K6.2.2.2.2, ← A4.2]
              exact ⟨K6.1, K6.2.1, K6.2.2.1, K6.2.2.2.1, by simp [ms]⟩
            · exact frm_ms K7 (by simp [exD])
            · exact K8
            · omega
          · have W := dq_f T (f := a) (n := n) (by omega) (by omega) (by omega) K2 (fun q => dq_bad T K2 K3 (by omega) K4 (by rw [← A4.2]; omega) (by rintro ⟨q1, q2⟩; rw [← A4.2, ← K6.2.2.2.2] at q2; simp_all)) (fun e => by omega)
            refine rr_iload2 (pc := 230) B dX9_readsDeeds_230 ?_
            refine rr_ireturn (pc := 231) B Br dX9_readsDeeds_231 ⟨congrArg (fun z => some (aI z)) ?_, ?_⟩
            · exact W.1.symm
            · refine ⟨(show M1 9 2 = dq T n 0 6 by rw [W.2]; exact K8), (by rw [W.2]; intro d h0 h1; omega), K7⟩
  refine rr_aload0 (pc := 0) B dX9_readsDeeds_0 ?_
  refine rr_iconst (z := 0) (pc := 1) B dX9_readsDeeds_1 ?_
  refine rr_putI (pc := 2) B dX9_readsDeeds_2 fl_9_107 ob_9_2 fi_9_2 (by omega) ?_
  refine rr_iconst (z := 0) (pc := 5) B dX9_readsDeeds_5 ?_
  refine rr_istore1 (pc := 6) B dX9_readsDeeds_6 rfl ?_
  refine rr_iconst (z := 0) (pc := 7) B dX9_readsDeeds_7 ?_
  refine rr_istore2 (pc := 8) B dX9_readsDeeds_8 rfl ?_
  refine (L _).1 _ _ _ _ _ ?_ ?_ ?_ ?_ ?_ ?_ ?_ ?_ (Nat.lt_succ_self _)
  · omega
  · omega
  · rfl
  · rfl
  · rfl
  · intro d h0 h1; omega
  · exact frm_ms frm_rfl rfl
  · rfl
