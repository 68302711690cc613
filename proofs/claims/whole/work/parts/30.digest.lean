theorem dOf_r {S : ax_M} (h : SR S) (d w : Int) : 0 ≤ dOf (vw S) d w ∧ dOf (vw S) d w ≤ 255 := by
  have c : CI (qd S) := dq_CI (t0 S) h.n0.1
  have z : (0 ≤ vw S 47 d ∧ vw S 47 d ≤ 3) ∧ (0 ≤ vw S 48 d ∧ vw S 48 d ≤ 5) ∧ (0 ≤ vw S 49 d ∧ vw S 49 d ≤ 1) ∧ (0 ≤ vw S 50 d ∧ vw S 50 d ≤ 9) ∧ (0 ≤ vw S 51 d ∧ vw S 51 d ≤ 255) := c.2.2.1 d
  unfold dOf
  repeat' split
  all_goals omega
theorem cst_r {V : ax_M} {d h : Int} (hV : ∀ p, 0 ≤ p → p < 8 → 0 ≤ V 57 p ∧ V 57 p ≤ 99) (hr : 0 ≤ V 60 0 ∧ V 60 0 ≤ 999) : -3 ≤ cst V d h ∧ cst V d h ≤ 2000 := by
  have := prc_r V (cm V d h) hV
  unfold cst
  split
  · omega
  · split <;> omega
theorem crB_r (V : ax_M) {n : Int} (hn : 0 ≤ n) (h8 : 0 ≤ V 9 2 ∧ V 9 2 ≤ 8) : -1 ≤ (crB V n).1 ∧ (crB V n).1 < n + 1 ∧ 0 ≤ (crB V n).2 ∧ (crB V n).2 ≤ 8 := by
  unfold crB
  refine itI_inv (fun i (x : Int × Int) => -1 ≤ x.1 ∧ x.1 < i + 1 ∧ 0 ≤ x.2 ∧ x.2 ≤ 8) hn (by decide) (fun i x h0 h1 q => ?_)
  have := askd_r V (i / 8) (i % 8) h8
  unfold crS
  split
  · refine ⟨?_, ?_, ?_, ?_⟩ <;> simp only [] <;> omega
  · refine ⟨?_, ?_, ?_, ?_⟩ <;> omega
theorem crO_r (V : ax_M) (w : Int) (h8 : 0 ≤ V 9 2 ∧ V 9 2 ≤ 8) : -1 ≤ crO V w ∧ crO V w ≤ 100 := by
  have := crB_r V (n := 64) (by decide) h8
  unfold crO
  repeat' split
  all_goals omega
theorem htB_r (V : ax_M) : -1 ≤ htB V ∧ htB V ≤ 2147483647 ∨ True := Or.inr trivial
theorem best_r (S : ax_M) (h8 : 0 ≤ vw S 9 2 ∧ vw S 9 2 ≤ 8) : -1 ≤ vBest S ∧ vBest S ≤ 8 := by
  unfold vBest beB
  have := itI_inv (f := beS (vw S)) (a := (-1, 0)) (p := vw S 9 2) (fun i (x : Int × Int) => -1 ≤ x.1 ∧ x.1 < i + 1) h8.1 (by decide) (fun i x h0 h1 q => by
    unfold beS
    split
    · refine ⟨?_, ?_⟩ <;> simp only [] <;> omega
    · refine ⟨?_, ?_⟩ <;> omega)
  omega
theorem htN_r (V : ax_M) (h : 0 ≤ V 9 26 ∧ V 9 26 ≤ 10) : -1 ≤ htB V ∧ htB V ≤ 1024 := by
  unfold htB
  have p := p2_le (a := V 9 26) (b := 10) h.2
  have e : p2 10 = 1024 := rfl
  have := itI_inv (f := htS V) (a := -1) (p := p2 (V 9 26)) (fun i x => -1 ≤ x ∧ x < i) (by have := p2_pos (V 9 26); omega) (by decide) (fun i x h0 h1 q => by
    unfold htS
    repeat' split
    all_goals omega)
  omega
set_option maxHeartbeats 16000000 in
set_option maxRecDepth 100000 in
theorem ct_X9_digest (g : ax_G) (M : ax_M) (S : ax_M) (H0 : bs S M) (H1 : SI S) : CT g md_X9_digest 7 [aR 9] M (pLR (vDig S) (fun M2 => bs S M2 ∧ co M M2)) := by
  refine ct_intro 4 rfl rfl ?_
  intro X hg B Br
  subst hg
  show AW X 0 [some (aR 9), none, none, none, none] [] M
  refine rr_rg (fun G0 => ?_)
  have SR0 : SR S := SR_of H0 G0
  have N8 := vw_n8 SR0
  have F0 : -1 ≤ qd S 0 7 ∧ qd S 0 7 ≤ S 45 0 := dq_fr (t0 S) SR0.n0.1
  have NN0 := SR0.n0
  have F1 : -1 ≤ qr S 5 2 ∧ qr S 5 2 ≤ 80 := rq_flr (t1 S) SR0.n1
  have P57 : ∀ p, 0 ≤ p → p < 8 → 0 ≤ vw S 57 p ∧ vw S 57 p ≤ 99 := fun p _ _ => SR0 57 p rfl
  have R60 : 0 ≤ vw S 60 0 ∧ vw S 60 0 ≤ 999 := SR0 60 0 rfl
  have L : ∀ nn : Nat, (∀ (M1 : ax_M) (z i : Int), (bs S M1) → (co M M1) → (0 ≤ i ∧ i ≤ 8) → (z = itI (fun w h => mx h (vCount S w)) 17 i) → ((100000 - i).toNat) < nn → AW X 6 [some (aR 9), some (aL z), none, some (aI i), none] [] M1) ∧ (∀ (M1 : ax_M) (z d : Int) (w4 : Option ax_V), (rdM S M1) → ((M1 9 24 = mW (vw S) ∧ M1 9 25 = mC (vw S) ∧ ∀ d, 0 ≤ d → d < vw S 9 2 → M1 64 d = mstR (vw S) d)) → (co M M1) → (0 ≤ d ∧ d ≤ vw S 9 2) → (z = dg2 S d) → ((50000 - 100 * d).toNat) < nn → AW X 63 [some (aR 9), some (aL z), none, some (aI d), w4] [] M1) ∧ (∀ (M1 : ax_M) (z d w : Int), (rdM S M1) → ((M1 9 24 = mW (vw S) ∧ M1 9 25 = mC (vw S) ∧ ∀ d, 0 ≤ d → d < vw S 9 2 → M1 64 d = mstR (vw S) d)) → (co M M1) → (0 ≤ d ∧ d < vw S 9 2) → (0 ≤ w ∧ w ≤ 5) → (z = itI (fun w h => mx h (dOf (vw S) d w)) (dg2 S d) w) → ((50000 - 100 * d - 1 - w).toNat) < nn → AW X 74 [some (aR 9), some (aL z), none, some (aI d), some (aI w)] [] M1) ∧ (∀ (M1 : ax_M) (z k : Int) (w4 : Option ax_V), (rdM S M1) → ((M1 9 24 = mW (vw S) ∧ M1 9 25 = mC (vw S) ∧ ∀ d, 0 ≤ d → d < vw S 9 2 → M1 64 d = mstR (vw S) d)) → (co M M1) → (0 ≤ k ∧ k ≤ 4) → (z = dg3 S k) → ((40000 - 100 * k).toNat) < nn → AW X 207 [some (aR 9), some (aL z), none, some (aI k), w4] [] M1) ∧ (∀ (M1 : ax_M) (z k w : Int), (rdM S M1) → ((M1 9 24 = mW (vw S) ∧ M1 9 25 = mC (vw S) ∧ ∀ d, 0 ≤ d → d < vw S 9 2 → M1 64 d = mstR (vw S) d)) → (co M M1) → (0 ≤ k ∧ k < 4) → (0 ≤ w ∧ w ≤ 3) → (z = dgK (vw S) k (dg3 S k) w) → ((40000 - 100 * k - 1 - w).toNat) < nn → AW X 215 [some (aR 9), some (aL z), none, some (aI k), some (aI w)] [] M1) ∧ (∀ (M1 : ax_M) (z w : Int) (w4 : Option ax_V), (rdM S M1) → (0 ≤ w ∧ w ≤ 3) → (co M M1) → (z = dg4 S w) → ((1000 - w).toNat) < nn → AW X 274 [some (aR 9), some (aL z), none, some (aI w), w4] [] M1) ∧ True := by
    intro nn
    induction nn with
    | zero => exact ⟨by intros; omega, by intros; omega, by intros; omega, by intros; omega, by intros; omega, by intros; omega, trivial⟩
    | succ nn ih =>
      refine ⟨?_, ?_, ?_, ?_, ?_, ?_, trivial⟩
      · intro M1 z i K0 K1 K2 K3 hm
        refine rr_rg (fun G1 => ?_)
        refine rr_iload3 (pc := 6) B dX9_digest_6 ?_
        refine rr_bipush (z := 8) (pc := 7) B dX9_digest_7 (by decide) ?_
        refine rr_icmp_ge 31 (pc := 9) B dX9_digest_9 (by decide) (by omega) (fun b1 => ?_) (fun b1 => ?_)
        · refine rr_ldc2 (z := 31) (pc := 31) B dX9_digest_31 cn_9_291 (by decide) ?_
          refine rr_lload1 (pc := 34) B dX9_digest_34 ?_
          refine rr_lmul (pc := 35) B dX9_digest_35 ?_
          refine rr_aload0 (pc := 36) B dX9_digest_36 ?_
          refine rr_iconst (z := 0) (pc := 37) B dX9_digest_37 ?_
          refine rc_VIR1 (pc := 38) B dX9_digest_38 vm_X9_faultOf lk_9_136 so_9 rfl (ct_X9_faultOf _ _ _ _ (by exact K0) (by omega)) (Nat.le_of_ble_eq_true rfl) (Nat.le_of_ble_eq_true rfl) (fun Mb2 b2 => ?_)
          refine rr_i2l (pc := 41) B dX9_digest_41 (by rw [if_pos rfl]; omega) ?_
          refine rr_ladd (pc := 42) B dX9_digest_42 ?_
          refine rr_lstore1 (pc := 43) B dX9_digest_43 rfl ?_
          refine rr_ldc2 (z := 31) (pc := 44) B dX9_digest_44 cn_9_291 (by decide) ?_
          refine rr_lload1 (pc := 47) B dX9_digest_47 ?_
          refine rr_lmul (pc := 48) B dX9_digest_48 ?_
          refine rr_aload0 (pc := 49) B dX9_digest_49 ?_
          refine rr_iconst (z := 1) (pc := 50) B dX9_digest_50 ?_
          refine rc_VIR1 (pc := 51) B dX9_digest_51 vm_X9_faultOf lk_9_136 so_9 rfl (ct_X9_faultOf _ _ _ _ (by exact b2.1) (by omega)) (Nat.le_of_ble_eq_true rfl) (Nat.le_of_ble_eq_true rfl) (fun Mb3 b3 => ?_)
          refine rr_i2l (pc := 54) B dX9_digest_54 (by rw [if_neg (by decide)]; omega) ?_
          refine rr_ladd (pc := 55) B dX9_digest_55 ?_
          refine rr_lstore1 (pc := 56) B dX9_digest_56 rfl ?_
          refine rr_aload0 (pc := 57) B dX9_digest_57 ?_
          refine rc_VVR0 (pc := 58) B dX9_digest_58 vm_X9_laysMost lk_9_211 so_9 rfl (ct_X9_laysMost _ _  _ (by exact b3.1)) (Nat.le_of_ble_eq_true rfl) (Nat.le_of_ble_eq_true rfl) (fun Mb4 b4 => ?_)
          refine rr_iconst (z := 0) (pc := 61) B dX9_digest_61 ?_
          refine rr_istore3 (pc := 62) B dX9_digest_62 rfl ?_
          refine ih.2.1 _ _ _ _ ?_ ?_ ?_ ?_ ?_ ?_
          · exact b4.1
          · exact b4.2.1
          · exact co_tr (co_tr K1 (co_tr (co_P b2.2) (co_P b3.2))) (co_L b4.2.2)
          · have := N8; omega
          · rw [show i = 8 by omega] at K3; rw [K3]; rfl
          · omega
        · refine rr_ldc2 (z := 31) (pc := 12) B dX9_digest_12 cn_9_291 (by decide) ?_
          refine rr_lload1 (pc := 15) B dX9_digest_15 ?_
          refine rr_lmul (pc := 16) B dX9_digest_16 ?_
          refine rr_aload0 (pc := 17) B dX9_digest_17 ?_
          refine rr_iload3 (pc := 18) B dX9_digest_18 ?_
          refine rc_VIR1 (pc := 19) B dX9_digest_19 vm_X9_count lk_9_293 so_9 rfl (ct_X9_count _ _ _ _ (by exact K0) (by exact H1) (by omega)) (Nat.le_of_ble_eq_true rfl) (Nat.le_of_ble_eq_true rfl) (fun Mb2 b2 => ?_)
          refine rr_i2l (pc := 22) B dX9_digest_22 (by have := cnt_r SR0 i; omega) ?_
          refine rr_ladd (pc := 23) B dX9_digest_23 ?_
          refine rr_lstore1 (pc := 24) B dX9_digest_24 rfl ?_
          refine rr_iinc3 (z := 1) (pc := 25) B dX9_digest_25 rfl ?_
          refine rr_goto 6 (pc := 28) B dX9_digest_28 (by decide) ?_
          refine ih.1 _ _ _ ?_ ?_ ?_ ?_ ?_
          · exact b2.1
          · exact co_tr K1 b2.2
          · omega
          · rw [itI_s _ _ (by omega), ← K3]; rfl
          · omega
      · intro M1 z d w4 K0 K1 K2 K3 K4 hm
        refine rr_rg (fun G1 => ?_)
        refine rr_iload3 (pc := 63) B dX9_digest_63 ?_
        refine rr_aload0 (pc := 64) B dX9_digest_64 ?_
        refine rr_getIE (pc := 65) B dX9_digest_65 fl_9_107 ob_9_2 (K0.1 9 _ (Or.inl rfl)) (fun b1 => ?_)
        refine rr_icmp_ge 205 (pc := 68) B dX9_digest_68 (by decide) (by omega) (fun b2 => ?_) (fun b2 => ?_)
        · refine rr_iconst (z := 0) (pc := 205) B dX9_digest_205 ?_
          refine rr_istore3 (pc := 206) B dX9_digest_206 rfl ?_
          refine ih.2.2.2.1 _ _ _ _ ?_ ?_ ?_ ?_ ?_ ?_
          · exact K0
          · exact K1
          · exact K2
          · omega
          · rw [K4, show d = vw S 9 2 by omega]; rfl
          · omega
        · refine rr_iconst (z := 0) (pc := 71) B dX9_digest_71 ?_
          refine rr_istore4 (pc := 72) B dX9_digest_72 rfl ?_
          refine ih.2.2.1 _ _ _ _ ?_ ?_ ?_ ?_ ?_ ?_ ?_
          · exact K0
          · exact K1
          · exact K2
          · omega
          · omega
          · exact K4
          · omega
      · intro M1 z d w K0 K1 K2 K3 K4 K5 hm
        refine rr_rg (fun G1 => ?_)
        refine rr_iload4 (pc := 74) B dX9_digest_74 ?_
        refine rr_iconst (z := 5) (pc := 76) B dX9_digest_76 ?_
        refine rr_icmp_ge 101 (pc := 77) B dX9_digest_77 (by decide) (by omega) (fun b1 => ?_) (fun b1 => ?_)
        · refine rr_ldc2 (z := 31) (pc := 101) B dX9_digest_101 cn_9_291 (by decide) ?_
          refine rr_lload1 (pc := 104) B dX9_digest_104 ?_
          refine rr_lmul (pc := 105) B dX9_digest_105 ?_
          refine rr_aload0 (pc := 106) B dX9_digest_106 ?_
          refine rr_iload3 (pc := 107) B dX9_digest_107 ?_
          refine rc_VI1 (pc := 108) B dX9_digest_108 vm_X9_hoursOf lk_9_179 so_9 rfl (ct_X9_hoursOf _ _ _ (vw S) (K0.1) (by omega)) (Nat.le_of_ble_eq_true rfl) (Nat.le_of_ble_eq_true rfl) ?_
          refine rr_i2l (pc := 111) B dX9_digest_111 (by have := hrs_r (vw S) d; omega) ?_
          refine rr_ladd (pc := 112) B dX9_digest_112 ?_
          refine rr_lstore1 (pc := 113) B dX9_digest_113 rfl ?_
          refine rr_ldc2 (z := 31) (pc := 114) B dX9_digest_114 cn_9_291 (by decide) ?_
          refine rr_lload1 (pc := 117) B dX9_digest_117 ?_
          refine rr_lmul (pc := 118) B dX9_digest_118 ?_
          refine rr_aload0 (pc := 119) B dX9_digest_119 ?_
          refine rr_iload3 (pc := 120) B dX9_digest_120 ?_
          refine rr_iconst (z := 2) (pc := 121) B dX9_digest_121 ?_
          refine rc_VI2 (pc := 122) B dX9_digest_122 vm_X9_costsOf lk_9_185 so_9 rfl (ct_X9_costsOf _ _ _ _ (vw S) (K0.1) (by omega) (by omega)) (Nat.le_of_ble_eq_true rfl) (Nat.le_of_ble_eq_true rfl) ?_
          refine rr_i2l (pc := 125) B dX9_digest_125 (by have := cst_r (V := vw S) (d := d) (h := 2) P57 R60; omega) ?_
          refine rr_ladd (pc := 126) B dX9_digest_126 ?_
          refine rr_lstore1 (pc := 127) B dX9_digest_127 rfl ?_
          refine rr_ldc2 (z := 31) (pc := 128) B dX9_digest_128 cn_9_291 (by decide) ?_
          refine rr_lload1 (pc := 131) B dX9_digest_131 ?_
          refine rr_lmul (pc := 132) B dX9_digest_132 ?_
          refine rr_aload0 (pc := 133) B dX9_digest_133 ?_
          refine rr_iload3 (pc := 134) B dX9_digest_134 ?_
          refine rr_iconst (z := 2) (pc := 135) B dX9_digest_135 ?_
          refine rc_VI2 (pc := 136) B dX9_digest_136 vm_X9_likenessOf lk_9_226 so_9 rfl (ct_X9_likenessOf _ _ _ _ (vw S) (K0.1) (by omega) (by omega) (by exact K0.2.2 d (by omega) (by omega))) (Nat.le_of_ble_eq_true rfl) (Nat.le_of_ble_eq_true rfl) ?_
          refine rr_i2l (pc := 139) B dX9_digest_139 (by have := lik_r (vw S) d 2; omega) ?_
          refine rr_ladd (pc := 140) B dX9_digest_140 ?_
          refine rr_lstore1 (pc := 141) B dX9_digest_141 rfl ?_
          refine rr_ldc2 (z := 31) (pc := 142) B dX9_digest_142 cn_9_291 (by decide) ?_
          refine rr_lload1 (pc := 145) B dX9_digest_145 ?_
          refine rr_lmul (pc := 146) B dX9_digest_146 ?_
          refine rr_aload0 (pc := 147) B dX9_digest_147 ?_
          refine rr_iload3 (pc := 148) B dX9_digest_148 ?_
          refine rr_iconst (z := 2) (pc := 149) B dX9_digest_149 ?_
          refine rr_iconst (z := 0) (pc := 150) B dX9_digest_150 ?_
          refine rc_VL3 (pc := 151) B dX9_digest_151 vm_X9_oddsOf lk_9_239 so_9 rfl (ct_X9_oddsOf _ _ _ _ _ (vw S) (K0.1) (by omega) (by omega) (by exact K0.2.2 d (by omega) (by omega)) (by omega)) (Nat.le_of_ble_eq_true rfl) (Nat.le_of_ble_eq_true rfl) ?_
          refine rr_ladd (pc := 154) B dX9_digest_154 ?_
          refine rr_lstore1 (pc := 155) B dX9_digest_155 rfl ?_
          refine rr_ldc2 (z := 31) (pc := 156) B dX9_digest_156 cn_9_291 (by decide) ?_
          refine rr_lload1 (pc := 159) B dX9_digest_159 ?_
          refine rr_lmul (pc := 160) B dX9_digest_160 ?_
          refine rr_aload0 (pc := 161) B dX9_digest_161 ?_
          refine rr_iload3 (pc := 162) B dX9_digest_162 ?_
          refine rr_iconst (z := 2) (pc := 163) B dX9_digest_163 ?_
          refine rr_iconst (z := 1) (pc := 164) B dX9_digest_164 ?_
          refine rc_VL3 (pc := 165) B dX9_digest_165 vm_X9_oddsOf lk_9_239 so_9 rfl (ct_X9_oddsOf _ _ _ _ _ (vw S) (K0.1) (by omega) (by omega) (by exact K0.2.2 d (by omega) (by omega)) (by omega)) (Nat.le_of_ble_eq_true rfl) (Nat.le_of_ble_eq_true rfl) ?_
          refine rr_ladd (pc := 168) B dX9_digest_168 ?_
          refine rr_lstore1 (pc := 169) B dX9_digest_169 rfl ?_
          refine rr_ldc2 (z := 31) (pc := 170) B dX9_digest_170 cn_9_291 (by decide) ?_
          refine rr_lload1 (pc := 173) B dX9_digest_173 ?_
          refine rr_lmul (pc := 174) B dX9_digest_174 ?_
          refine rr_aload0 (pc := 175) B dX9_digest_175 ?_
          refine rr_getR (pc := 176) B dX9_digest_176 fl_9_67 or_9_21 ?_
          refine rr_iload3 (pc := 179) B dX9_digest_179 ?_
          refine rr_ialoadE (pc := 180) B dX9_digest_180 sa_64 (by omega) (K1.2.2 _ (by omega) (by omega)) (fun b2 => ?_)
          refine rr_i2l (pc := 181) B dX9_digest_181 (by have := G1.at (sa_64.2.2 d); rw [K1.2.2 d (by omega) (by omega)] at this; omega) ?_
          refine rr_ladd (pc := 182) B dX9_digest_182 ?_
          refine rr_lstore1 (pc := 183) B dX9_digest_183 rfl ?_
          refine rr_ldc2 (z := 31) (pc := 184) B dX9_digest_184 cn_9_291 (by decide) ?_
          refine rr_lload1 (pc := 187) B dX9_digest_187 ?_
          refine rr_lmul (pc := 188) B dX9_digest_188 ?_
          refine rr_aload0 (pc := 189) B dX9_digest_189 ?_
          refine rr_iconst (z := 1) (pc := 190) B dX9_digest_190 ?_
          refine rr_iload3 (pc := 191) B dX9_digest_191 ?_
          refine rr_shl1 (pc := 192) B dX9_digest_192 (by omega) (fun b3 => ?_)
          refine rc_VI1 (pc := 193) B dX9_digest_193 vm_X9_sparedOf lk_9_261 so_9 rfl (ct_X9_sparedOf _ _ _ (vw S) (K0.1) (by have q2 := p2_le (a := d) (b := 7) (by omega); have q3 : p2 7 = 128 := rfl; omega)) (Nat.le_of_ble_eq_true rfl) (Nat.le_of_ble_eq_true rfl) ?_
          refine rr_i2l (pc := 196) B dX9_digest_196 (by have := wth_r (vw S) (nD (rch (vw S) (p2 d)) (p2 d)) N8 (fun j _ _ => vw_50 SR0 j); unfold spV; omega) ?_
          refine rr_ladd (pc := 197) B dX9_digest_197 ?_
          refine rr_lstore1 (pc := 198) B dX9_digest_198 rfl ?_
          refine rr_iinc3 (z := 1) (pc := 199) B dX9_digest_199 rfl ?_
          refine rr_goto 63 (pc := 202) B dX9_digest_202 (by decide) ?_
          refine ih.2.1 _ _ _ _ ?_ ?_ ?_ ?_ ?_ ?_
          · exact K0
          · exact K1
          · exact K2
          · omega
          · rw [show dg2 S (d + 1) = dgD (vw S) d (dg2 S d) from itI_s _ _ K3.1, K5, show w = 5 by omega]; rfl
          · omega
        · refine rr_ldc2 (z := 31) (pc := 80) B dX9_digest_80 cn_9_291 (by decide) ?_
          refine rr_lload1 (pc := 83) B dX9_digest_83 ?_
          refine rr_lmul (pc := 84) B dX9_digest_84 ?_
          refine rr_aload0 (pc := 85) B dX9_digest_85 ?_
          refine rr_iload3 (pc := 86) B dX9_digest_86 ?_
          refine rr_iload4 (pc := 87) B dX9_digest_87 ?_
          refine rc_VI2 (pc := 89) B dX9_digest_89 vm_X9_deedOf lk_9_146 so_9 rfl (ct_X9_deedOf _ _ _ _ (vw S) (K0.1) (by omega) (by omega)) (Nat.le_of_ble_eq_true rfl) (Nat.le_of_ble_eq_true rfl) ?_
          refine rr_i2l (pc := 92) B dX9_digest_92 (by have a1 := dOf_r SR0 d w; unfold dOf at a1; omega) ?_
          refine rr_ladd (pc := 93) B dX9_digest_93 ?_
          refine rr_lstore1 (pc := 94) B dX9_digest_94 rfl ?_
          refine rr_iinc4 (z := 1) (pc := 95) B dX9_digest_95 rfl ?_
          refine rr_goto 74 (pc := 98) B dX9_digest_98 (by decide) ?_
          refine ih.2.2.1 _ _ _ _ ?_ ?_ ?_ ?_ ?_ ?_ ?_
          · exact K0
          · exact K1
          · exact K2
          · omega
          · omega
          · rw [itI_s _ _ (by omega), ← K5]; rfl
          · omega
      · intro M1 z k w4 K0 K1 K2 K3 K4 hm
        refine rr_rg (fun G1 => ?_)
        refine rr_iload3 (pc := 207) B dX9_digest_207 ?_
        refine rr_iconst (z := 4) (pc := 208) B dX9_digest_208 ?_
        refine rr_icmp_ge 248 (pc := 209) B dX9_digest_209 (by decide) (by omega) (fun b1 => ?_) (fun b1 => ?_)
        · refine rr_ldc2 (z := 31) (pc := 248) B dX9_digest_248 cn_9_291 (by decide) ?_
          refine rr_lload1 (pc := 251) B dX9_digest_251 ?_
          refine rr_lmul (pc := 252) B dX9_digest_252 ?_
          refine rr_aload0 (pc := 253) B dX9_digest_253 ?_
          refine rr_getIE (pc := 254) B dX9_digest_254 fl_9_205 ob_9_24 (K1.1) (fun b2 => ?_)
          refine rr_i2l (pc := 257) B dX9_digest_257 (by have := G1.at ob_9_24.2.1; rw [K1.1] at this; omega) ?_
          refine rr_ladd (pc := 258) B dX9_digest_258 ?_
          refine rr_lstore1 (pc := 259) B dX9_digest_259 rfl ?_
          refine rr_ldc2 (z := 31) (pc := 260) B dX9_digest_260 cn_9_291 (by decide) ?_
          refine rr_lload1 (pc := 263) B dX9_digest_263 ?_
          refine rr_lmul (pc := 264) B dX9_digest_264 ?_
          refine rr_aload0 (pc := 265) B dX9_digest_265 ?_
          refine rr_getIE (pc := 266) B dX9_digest_266 fl_9_208 ob_9_25 (K1.2.1) (fun b3 => ?_)
          refine rr_i2l (pc := 269) B dX9_digest_269 (by have := G1.at ob_9_25.2.1; rw [K1.2.1] at this; omega) ?_
          refine rr_ladd (pc := 270) B dX9_digest_270 ?_
          refine rr_lstore1 (pc := 271) B dX9_digest_271 rfl ?_
          refine rr_iconst (z := 0) (pc := 272) B dX9_digest_272 ?_
          refine rr_istore3 (pc := 273) B dX9_digest_273 rfl ?_
          refine ih.2.2.2.2.2.1 _ _ _ _ ?_ ?_ ?_ ?_ ?_
          · exact K0
          · omega
          · exact K2
          · rw [show k = 4 by omega] at K4; rw [K4]; rfl
          · omega
        · refine rr_iconst (z := 0) (pc := 212) B dX9_digest_212 ?_
          refine rr_istore4 (pc := 213) B dX9_digest_213 rfl ?_
          refine ih.2.2.2.2.1 _ _ _ _ ?_ ?_ ?_ ?_ ?_ ?_ ?_
          · exact K0
          · exact K1
          · exact K2
          · omega
          · omega
          · exact K4
          · omega
      · intro M1 z k w K0 K1 K2 K3 K4 K5 hm
        refine rr_rg (fun G1 => ?_)
        refine rr_iload4 (pc := 215) B dX9_digest_215 ?_
        refine rr_iconst (z := 3) (pc := 217) B dX9_digest_217 ?_
        refine rr_icmp_ge 242 (pc := 218) B dX9_digest_218 (by decide) (by omega) (fun b1 => ?_) (fun b1 => ?_)
        · refine rr_iinc3 (z := 1) (pc := 242) B dX9_digest_242 rfl ?_
          refine rr_goto 207 (pc := 245) B dX9_digest_245 (by decide) ?_
          refine ih.2.2.2.1 _ _ _ _ ?_ ?_ ?_ ?_ ?_ ?_
          · exact K0
          · exact K1
          · exact K2
          · omega
          · rw [show dg3 S (k + 1) = dgK (vw S) k (dg3 S k) 3 from itI_s _ _ K3.1, K5, show w = 3 by omega]
          · omega
        · refine rr_ldc2 (z := 31) (pc := 221) B dX9_digest_221 cn_9_291 (by decide) ?_
          refine rr_lload1 (pc := 224) B dX9_digest_224 ?_
          refine rr_lmul (pc := 225) B dX9_digest_225 ?_
          refine rr_aload0 (pc := 226) B dX9_digest_226 ?_
          refine rr_iload3 (pc := 227) B dX9_digest_227 ?_
          refine rr_iload4 (pc := 228) B dX9_digest_228 ?_
          refine rc_VIR2 (pc := 230) B dX9_digest_230 vm_X9_ruleOf lk_9_149 so_9 rfl (ct_X9_ruleOf _ _ _ _ _ (by exact K0.2.1) (by omega) (by omega)) (Nat.le_of_ble_eq_true rfl) (Nat.le_of_ble_eq_true rfl) (fun Mb2 b2 => ?_)
          refine rr_rg (fun G2 => ?_)
          refine rr_i2l (pc := 233) B dX9_digest_233 (by have := G2.at (sa_52.2.2 k); have := G2.at (sa_53.2.2 k); have := G2.at (sa_54.2.2 k); rw [b2.1.1 52 k ⟨by omega, by omega⟩] at *; rw [b2.1.1 53 k ⟨by omega, by omega⟩] at *; rw [b2.1.1 54 k ⟨by omega, by omega⟩] at *; unfold rOf; split; omega; split <;> omega) ?_
          refine rr_ladd (pc := 234) B dX9_digest_234 ?_
          refine rr_lstore1 (pc := 235) B dX9_digest_235 rfl ?_
          refine rr_iinc4 (z := 1) (pc := 236) B dX9_digest_236 rfl ?_
          refine rr_goto 215 (pc := 239) B dX9_digest_239 (by decide) ?_
          refine ih.2.2.2.2.1 _ _ _ _ ?_ ?_ ?_ ?_ ?_ ?_ ?_
          · exact b2.1
          · exact ⟨(b2.2 9 24 rfl).trans K1.1, (b2.2 9 25 rfl).trans K1.2.1, fun d a b => (b2.2 64 d rfl).trans (K1.2.2 d a b)⟩
          · exact co_tr K2 (co_P b2.2)
          · omega
          · omega
          · rw [show dgK (vw S) k (dg3 S k) (w + 1) = mx (dgK (vw S) k (dg3 S k) w) (rOf (vw S) k w) from itI_s _ _ (by omega), ← K5]; rfl
          · omega
      · intro M1 z w w4 K0 K1 K2 K3 hm
        refine rr_rg (fun G1 => ?_)
        refine rr_iload3 (pc := 274) B dX9_digest_274 ?_
        refine rr_iconst (z := 3) (pc := 275) B dX9_digest_275 ?_
        refine rr_icmp_ge 298 (pc := 276) B dX9_digest_276 (by decide) (by omega) (fun b1 => ?_) (fun b1 => ?_)
        · refine rr_ldc2 (z := 31) (pc := 298) B dX9_digest_298 cn_9_291 (by decide) ?_
          refine rr_lload1 (pc := 301) B dX9_digest_301 ?_
          refine rr_lmul (pc := 302) B dX9_digest_302 ?_
          refine rr_aload0 (pc := 303) B dX9_digest_303 ?_
          refine rr_iconst (z := 0) (pc := 304) B dX9_digest_304 ?_
          refine rc_VI1 (pc := 305) B dX9_digest_305 vm_X9_hatsOf lk_9_252 so_9 rfl (ct_X9_hatsOf _ _ _ (ov S M1) (ov_ag K0.2.1) (by omega)) (Nat.le_of_ble_eq_true rfl) (Nat.le_of_ble_eq_true rfl) ?_
          refine rr_i2l (pc := 308) B dX9_digest_308 (by rw [if_pos rfl, ov_htB]; have := on_r (htB S); omega) ?_
          refine rr_ladd (pc := 309) B dX9_digest_309 ?_
          refine rr_lstore1 (pc := 310) B dX9_digest_310 rfl ?_
          refine rr_ldc2 (z := 31) (pc := 311) B dX9_digest_311 cn_9_291 (by decide) ?_
          refine rr_lload1 (pc := 314) B dX9_digest_314 ?_
          refine rr_lmul (pc := 315) B dX9_digest_315 ?_
          refine rr_aload0 (pc := 316) B dX9_digest_316 ?_
          refine rr_iconst (z := 1) (pc := 317) B dX9_digest_317 ?_
          refine rc_VI1 (pc := 318) B dX9_digest_318 vm_X9_hatsOf lk_9_252 so_9 rfl (ct_X9_hatsOf _ _ _ (ov S M1) (ov_ag K0.2.1) (by omega)) (Nat.le_of_ble_eq_true rfl) (Nat.le_of_ble_eq_true rfl) ?_
          refine rr_i2l (pc := 321) B dX9_digest_321 (by rw [if_neg (by decide), ov_htB]; have := htN_r S (SR0 9 26 rfl); omega) ?_
          refine rr_ladd (pc := 322) B dX9_digest_322 ?_
          refine rr_lstore1 (pc := 323) B dX9_digest_323 rfl ?_
          refine rr_ldc2 (z := 31) (pc := 324) B dX9_digest_324 cn_9_291 (by decide) ?_
          refine rr_lload1 (pc := 327) B dX9_digest_327 ?_
          refine rr_lmul (pc := 328) B dX9_digest_328 ?_
          refine rr_aload0 (pc := 329) B dX9_digest_329 ?_
          refine rc_VIR0 (pc := 330) B dX9_digest_330 vm_X9_bestNow lk_9_264 so_9 rfl (ct_X9_bestNow _ _  _ (by exact K0.2.1)) (Nat.le_of_ble_eq_true rfl) (Nat.le_of_ble_eq_true rfl) (fun Mb2 b2 => ?_)
          refine rr_i2l (pc := 333) B dX9_digest_333 (by have := best_r S N8; omega) ?_
          refine rr_ladd (pc := 334) B dX9_digest_334 ?_
          refine rr_lstore1 (pc := 335) B dX9_digest_335 rfl ?_
          refine rr_ldc2 (z := 31) (pc := 336) B dX9_digest_336 cn_9_291 (by decide) ?_
          refine rr_lload1 (pc := 339) B dX9_digest_339 ?_
          refine rr_lmul (pc := 340) B dX9_digest_340 ?_
          refine rr_aload0 (pc := 341) B dX9_digest_341 ?_
          refine rr_iconst (z := 2) (pc := 342) B dX9_digest_342 ?_
          refine rr_iconst (z := 0) (pc := 343) B dX9_digest_343 ?_
          refine rc_VLR2 (pc := 344) B dX9_digest_344 vm_X9_regretsOf lk_9_271 so_9 rfl (ct_X9_regretsOf _ _ _ _ _ (by exact b2.1.2.1) (by omega) (by omega)) (Nat.le_of_ble_eq_true rfl) (Nat.le_of_ble_eq_true rfl) (fun Mb3 b3 => ?_)
          refine rr_ladd (pc := 347) B dX9_digest_347 ?_
          refine rr_lstore1 (pc := 348) B dX9_digest_348 rfl ?_
          refine rr_ldc2 (z := 31) (pc := 349) B dX9_digest_349 cn_9_291 (by decide) ?_
          refine rr_lload1 (pc := 352) B dX9_digest_352 ?_
          refine rr_lmul (pc := 353) B dX9_digest_353 ?_
          refine rr_aload0 (pc := 354) B dX9_digest_354 ?_
          refine rr_iconst (z := 2) (pc := 355) B dX9_digest_355 ?_
          refine rr_iconst (z := 1) (pc := 356) B dX9_digest_356 ?_
          refine rc_VLR2 (pc := 357) B dX9_digest_357 vm_X9_regretsOf lk_9_271 so_9 rfl (ct_X9_regretsOf _ _ _ _ _ (by exact b3.1.2.1) (by omega) (by omega)) (Nat.le_of_ble_eq_true rfl) (Nat.le_of_ble_eq_true rfl) (fun Mb4 b4 => ?_)
          refine rr_ladd (pc := 360) B dX9_digest_360 ?_
          refine rr_lreturn (pc := 361) B Br dX9_digest_361 ⟨congrArg (fun z => some (aL z)) ?_, ?_⟩
          · rw [K3, show w = 3 by omega]; rfl
          · exact ⟨b4.1.2.1, co_tr K2 (co_tr (co_P b2.2) (co_tr (co_P b3.2) (co_P b4.2)))⟩
        · refine rr_ldc2 (z := 31) (pc := 279) B dX9_digest_279 cn_9_291 (by decide) ?_
          refine rr_lload1 (pc := 282) B dX9_digest_282 ?_
          refine rr_lmul (pc := 283) B dX9_digest_283 ?_
          refine rr_aload0 (pc := 284) B dX9_digest_284 ?_
          refine rr_iload3 (pc := 285) B dX9_digest_285 ?_
          refine rc_VIR1 (pc := 286) B dX9_digest_286 vm_X9_crowdOf lk_9_223 so_9 rfl (ct_X9_crowdOf _ _ _ _ (by exact K0.2.1) (by omega)) (Nat.le_of_ble_eq_true rfl) (Nat.le_of_ble_eq_true rfl) (fun Mb2 b2 => ?_)
          refine rr_i2l (pc := 289) B dX9_digest_289 (by have := crO_r (vw S) w N8; omega) ?_
          refine rr_ladd (pc := 290) B dX9_digest_290 ?_
          refine rr_lstore1 (pc := 291) B dX9_digest_291 rfl ?_
          refine rr_iinc3 (z := 1) (pc := 292) B dX9_digest_292 rfl ?_
          refine rr_goto 274 (pc := 295) B dX9_digest_295 (by decide) ?_
          refine ih.2.2.2.2.2.1 _ _ _ _ ?_ ?_ ?_ ?_ ?_
          · exact b2.1
          · omega
          · exact co_tr K2 (co_P b2.2)
          · rw [show dg4 S (w + 1) = mx (dg4 S w) (crO (vw S) w) from itI_s _ _ (by omega), ← K3]; rfl
          · omega
  refine rr_ldc2 (z := 17) (pc := 0) B dX9_digest_0 cn_9_289 (by decide) ?_
  refine rr_lstore1 (pc := 3) B dX9_digest_3 rfl ?_
  refine rr_iconst (z := 0) (pc := 4) B dX9_digest_4 ?_
  refine rr_istore3 (pc := 5) B dX9_digest_5 rfl ?_
  refine (L _).1 _ _ _ ?_ ?_ ?_ ?_ (Nat.lt_succ_self _)
  · exact H0
  · exact co_rfl M
  · omega
  · rfl
