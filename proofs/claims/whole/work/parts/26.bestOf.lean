set_option maxHeartbeats 32000000 in
set_option maxRecDepth 100000 in
theorem ct_X9_bestOf (g : ax_G) (M : ax_M) (m : Int) (V : ax_M) (H0 : AgM V M) (H1 : 0 ≤ m ∧ m ≤ V 9 2) (H2 : ∀ h s, 0 ≤ h → h < 8 → 0 ≤ s → s < p2 (V 9 2) → M 61 (256 * h + s) = cT V s h) (H3 : ∀ d, 0 ≤ d → d < m → -1 ≤ M 64 d ∧ M 64 d ≤ 7) : CT g md_X9_bestOf 2 [aR 9, aI m] M (pVR (fun M2 => BestP V (M 64) m (M2 9 22) (M2 9 23) ∧ frm exB M M2)) := by
  refine ct_intro 8 rfl rfl ?_
  intro X hg B Br
  subst hg
  show AW X 0 [some (aR 9), some (aI m), none, none, none, none, none, none, none, none] [] M
  refine rr_rg (fun G0 => ?_)
  have HV := H0
  have D8 : V 9 2 ≤ 8 := by have := G0.at ob_9_2.2.1; rw [HV 9 2 (Or.inl rfl)] at this; omega
  have D0 : 0 ≤ V 9 2 := by have := G0.at ob_9_2.2.1; rw [HV 9 2 (Or.inl rfl)] at this; omega
  have P99 : ∀ p, 0 ≤ p → p < 8 → 0 ≤ V 57 p ∧ V 57 p ≤ 99 := fun p q1 q2 => by have := G0.at (sa_57.2.2 p); rw [HV 57 p trivial] at this; exact this
  have R99 : 0 ≤ V 60 0 ∧ V 60 0 ≤ 999 := by have := G0.at (sa_60.2.2 0); rw [HV 60 0 trivial] at this; exact this
  have N1 := p2_pos (V 9 2)
  have N256 : p2 (V 9 2) ≤ 256 := by have := p2_le (a := V 9 2) (b := 8) D8; have e : p2 8 = 256 := rfl; omega
  have CT1 : ∀ st hh, 0 ≤ cT V st hh ∧ (cT V st hh ≤ 10000 ∨ cT V st hh = 1000000) := fun st hh => cT_r ⟨D0, D8⟩ P99 R99
  have HBD : ∀ h s, 0 ≤ h → h < 8 → vM V (M 64) m h s → 0 ≤ cV V h s ∧ cV V h s ≤ 10000 := fun h s _ _ q => by have := CT1 s h; have := q.2; show 0 ≤ cT V s h ∧ cT V s h ≤ 10000; omega
  have MB : ∀ a k, 0 ≤ a → a < p2 (V 9 2) → tb a k = true → k < V 9 2 := fun a k h0 h1 e => by have := tb_lt (a := a) (k := k) (V 9 2).toNat ⟨h0, by unfold p2 at h1; exact h1⟩ e; omega
  have L : ∀ nn : Nat, (∀ (M1 : ax_M) (s : Int), (0 ≤ s ∧ s ≤ p2 (V 9 2)) → (frm exB M M1) → (∀ t, 0 ≤ t → t < s → M1 62 t = if t = 0 then 0 else 1000000) → ((4000000 + p2 (V 9 2) - s).toNat) < nn → AW X 11 [some (aR 9), some (aI m), some (aI (p2 (V 9 2) - 1)), some (aI s), none, none, none, none, none, none] [] M1) ∧ (∀ (M1 : ax_M) (h : Int) (w4 w5 w6 w7 w8 w9 : Option ax_V), (0 ≤ h ∧ h ≤ 8) → (frm exB M M1) → (isLs (V 9 2) (cV V) (vM V (M 64) m) 1000000 h (M1 62)) → ((400000 * (8 - h) + 399999).toNat) < nn → AW X 40 [some (aR 9), some (aI m), some (aI (p2 (V 9 2) - 1)), some (aI h), w4, w5, w6, w7, w8, w9] [] M1) ∧ (∀ (M1 : ax_M) (h must may d : Int) (w7 w8 w9 : Option ax_V), (0 ≤ h ∧ h < 8) → (frm exB M M1) → (isLs (V 9 2) (cV V) (vM V (M 64) m) 1000000 h (M1 62)) → (0 ≤ d ∧ d ≤ m) → (musC (M 64) d h must ∧ must < 256) → (mayC (M 64) (V 9 2) d h may ∧ may < 256) → ((400000 * (8 - h) + 390000 - d).toNat) < nn → AW X 55 [some (aR 9), some (aI m), some (aI (p2 (V 9 2) - 1)), some (aI h), some (aI must), some (aI may), some (aI d), w7, w8, w9] [] M1) ∧ (∀ (M1 : ax_M) (h must may set : Int) (w7 w8 w9 : Option ax_V), (0 ≤ h ∧ h < 8) → (frm exB M M1) → (isLs (V 9 2) (cV V) (vM V (M 64) m) 1000000 h (M1 62)) → (musC (M 64) m h must ∧ must < 256) → (mayC (M 64) (V 9 2) m h may ∧ may < 256) → (0 ≤ set ∧ set ≤ p2 (V 9 2)) → (∀ s, 0 ≤ s → s < set → gR V (M 64) m h (M1 62) (M1 63 s) s (-1)) → ((400000 * (8 - h) + 380000 - 1000 * set).toNat) < nn → AW X 120 [some (aR 9), some (aI m), some (aI (p2 (V 9 2) - 1)), some (aI h), some (aI must), some (aI may), some (aI set), w7, w8, w9] [] M1) ∧ (∀ (M1 : ax_M) (h must may set here more : Int) (w9 : Option ax_V), (0 ≤ h ∧ h < 8) → (frm exB M M1) → (isLs (V 9 2) (cV V) (vM V (M 64) m) 1000000 h (M1 62)) → (musC (M 64) m h must ∧ must < 256) → (mayC (M 64) (V 9 2) m h may ∧ may < 256) → (0 ≤ set ∧ set < p2 (V 9 2)) → (∀ s, 0 ≤ s → s < set → gR V (M 64) m h (M1 62) (M1 63 s) s (-1)) → ((0 ≤ here ∧ here < 256) ∧ 0 ≤ more ∧ more ≤ 1) → (more = 1 → here ≤ set ∧ sub here set ∧ gR V (M 64) m h (M1 62) (M1 63 set) set (here)) → (more = 0 → gR V (M 64) m h (M1 62) (M1 63 set) set (-1)) → ((400000 * (8 - h) + 380000 - 1000 * set - 900 + (if more = 1 then 2 * here + 3 else 1)).toNat) < nn → AW X 142 [some (aR 9), some (aI m), some (aI (p2 (V 9 2) - 1)), some (aI h), some (aI must), some (aI may), some (aI set), some (aI here), some (aI more), w9] [] M1) ∧ (∀ (M1 : ax_M) (h must may set here z8 : Int) (w9 : Option ax_V), (0 ≤ h ∧ h < 8) → (frm exB M M1) → (isLs (V 9 2) (cV V) (vM V (M 64) m) 1000000 h (M1 62)) → (musC (M 64) m h must ∧ must < 256) → (mayC (M 64) (V 9 2) m h may ∧ may < 256) → (0 ≤ set ∧ set < p2 (V 9 2)) → (∀ s, 0 ≤ s → s < set → gR V (M 64) m h (M1 62) (M1 63 s) s (-1)) → (0 ≤ here ∧ here ≤ set) → (sub here set) → (gR V (M 64) m h (M1 62) (M1 63 set) set (here - 1)) → ((400000 * (8 - h) + 380000 - 1000 * set - 900 + 2 * here + 2).toNat) < nn → AW X 261 [some (aR 9), some (aI m), some (aI (p2 (V 9 2) - 1)), some (aI h), some (aI must), some (aI may), some (aI set), some (aI here), some (aI z8), w9] [] M1) ∧ (∀ (M1 : ax_M) (h must may s : Int) (w7 w8 w9 : Option ax_V), (0 ≤ h ∧ h < 8) → (frm exB M M1) → (isLs (V 9 2) (cV V) (vM V (M 64) m) 1000000 (h + 1) (M1 63)) → (0 ≤ s ∧ s ≤ p2 (V 9 2)) → (∀ t, 0 ≤ t → t < s → M1 62 t = M1 63 t) → ((400000 * (8 - h) + 100000 - s).toNat) < nn → AW X 294 [some (aR 9), some (aI m), some (aI (p2 (V 9 2) - 1)), some (aI h), some (aI must), some (aI may), some (aI s), w7, w8, w9] [] M1) ∧ (∀ (M1 : ax_M) (s : Int) (w4 w5 w6 w7 w8 w9 : Option ax_V), (0 ≤ s ∧ s ≤ p2 (V 9 2)) → (frm exB M M1) → (isLs (V 9 2) (cV V) (vM V (M 64) m) 1000000 8 (M1 62)) → (∀ t, 0 ≤ t → t < s → M1 62 t ≤ V 60 2 → wth V t < M1 9 22 ∨ wth V t = M1 9 22 ∧ M1 9 23 ≤ M1 62 t) → (M1 9 22 = -1 ∧ M1 9 23 = 0 ∧ (∀ t, 0 ≤ t → t < s → ¬ M1 62 t ≤ V 60 2) ∨ ∃ t, 0 ≤ t ∧ t < s ∧ M1 62 t ≤ V 60 2 ∧ wth V t = M1 9 22 ∧ M1 62 t = M1 9 23) → ((p2 (V 9 2) - s).toNat) < nn → AW X 338 [some (aR 9), some (aI m), some (aI (p2 (V 9 2) - 1)), some (aI s), w4, w5, w6, w7, w8, w9] [] M1) ∧ True := by
    intro nn
    induction nn with
    | zero => exact ⟨by intros; omega, by intros; omega, by intros; omega, by intros; omega, by intros; omega, by intros; omega, by intros; omega, by intros; omega, trivial⟩
    | succ nn ih =>
      refine ⟨?_, ?_, ?_, ?_, ?_, ?_, ?_, ?_, trivial⟩
      · intro M1 s K0 K1 K2 hm
        refine rr_rg (fun G1 => ?_)
        refine rr_iload3 (pc := 11) B dX9_bestOf_11 ?_
        refine rr_iload2 (pc := 12) B dX9_bestOf_12 ?_
        refine rr_icmp_gt 38 (pc := 13) B dX9_bestOf_13 (by decide) (by omega) (fun b1 => ?_) (fun b1 => ?_)
        · refine rr_iconst (z := 0) (pc := 38) B dX9_bestOf_38 ?_
          refine rr_istore3 (pc := 39) B dX9_bestOf_39 rfl ?_
          refine ih.2.1 _ _ _ _ _ _ _ _ ?_ ?_ ?_ ?_
          · omega
          · exact K1
          · exact ls_0 (by omega) (by rw [K2 0 (by omega) (by omega)]; rfl) (fun t h0 h1 => by rw [K2 t (by omega) (by omega), if_neg (by omega)])
          · omega
        · refine rr_aload0 (pc := 16) B dX9_bestOf_16 ?_
          refine rr_getR (pc := 17) B dX9_bestOf_17 fl_9_61 or_9_19 ?_
          refine rr_iload3 (pc := 20) B dX9_bestOf_20 ?_
          refine rr_iload3 (pc := 21) B dX9_bestOf_21 ?_
          refine rr_if_ne 29 (pc := 22) B dX9_bestOf_22 (by decide) (by omega) (fun b2 => ?_) (fun b2 => ?_)
          · refine rr_ldc (z := 1000000) (pc := 29) B dX9_bestOf_29 cn_9_188 (by decide) ?_
            refine rr_iastore (pc := 31) B dX9_bestOf_31 sa_62 (by omega) (by omega) ?_
            refine rr_iinc3 (z := 1) (pc := 32) B dX9_bestOf_32 rfl ?_
            refine rr_goto 11 (pc := 35) B dX9_bestOf_35 (by decide) ?_
            refine ih.1 _ _ ?_ ?_ ?_ ?_
            · omega
            · exact frm_ms K1 (by simp [exB])
            · intro t h0 h1
              by_cases q : t = s
              · subst q; rw [ms_at]; first | rw [if_pos (by omega)] | rw [if_neg (by omega)]
              · rw [ms_off q]; exact K2 t h0 (by omega)
            · omega
          · refine rr_iconst (z := 0) (pc := 25) B dX9_bestOf_25 ?_
            refine rr_goto 31 (pc := 26) B dX9_bestOf_26 (by decide) ?_
            refine rr_iastore (pc := 31) B dX9_bestOf_31 sa_62 (by omega) (by omega) ?_
            refine rr_iinc3 (z := 1) (pc := 32) B dX9_bestOf_32 rfl ?_
            refine rr_goto 11 (pc := 35) B dX9_bestOf_35 (by decide) ?_
            refine ih.1 _ _ ?_ ?_ ?_ ?_
            · omega
            · exact frm_ms K1 (by simp [exB])
            · intro t h0 h1
              by_cases q : t = s
              · subst q; rw [ms_at]; first | rw [if_pos (by omega)] | rw [if_neg (by omega)]
              · rw [ms_off q]; exact K2 t h0 (by omega)
            · omega
      · intro M1 h w4 w5 w6 w7 w8 w9 K0 K1 K2 hm
        refine rr_rg (fun G1 => ?_)
        refine rr_iload3 (pc := 40) B dX9_bestOf_40 ?_
        refine rr_bipush (z := 8) (pc := 41) B dX9_bestOf_41 (by decide) ?_
        refine rr_icmp_ge 326 (pc := 43) B dX9_bestOf_43 (by decide) (by omega) (fun b1 => ?_) (fun b1 => ?_)
        · refine rr_aload0 (pc := 326) B dX9_bestOf_326 ?_
          refine rr_iconst (z := (-1)) (pc := 327) B dX9_bestOf_327 ?_
          refine rr_putI (pc := 328) B dX9_bestOf_328 fl_9_189 ob_9_22 fi_9_22 (by omega) ?_
          refine rr_aload0 (pc := 331) B dX9_bestOf_331 ?_
          refine rr_iconst (z := 0) (pc := 332) B dX9_bestOf_332 ?_
          refine rr_putI (pc := 333) B dX9_bestOf_333 fl_9_192 ob_9_23 fi_9_23 (by omega) ?_
          refine rr_iconst (z := 0) (pc := 336) B dX9_bestOf_336 ?_
          refine rr_istore3 (pc := 337) B dX9_bestOf_337 rfl ?_
          refine ih.2.2.2.2.2.2.2.1 _ _ _ _ _ _ _ _ ?_ ?_ ?_ ?_ ?_ ?_
          · omega
          · exact frm_ms (frm_ms K1 (by simp [exB])) (by simp [exB])
          · rw [show (8 : Int) = h by omega]; exact K2
          · intro t h0 h1; omega
          · left; exact ⟨rfl, rfl, fun t h0 h1 => by omega⟩
          · omega
        · refine rr_iconst (z := 0) (pc := 46) B dX9_bestOf_46 ?_
          refine rr_istore4 (pc := 47) B dX9_bestOf_47 rfl ?_
          refine rr_iload2 (pc := 49) B dX9_bestOf_49 ?_
          refine rr_istore5 (pc := 50) B dX9_bestOf_50 rfl ?_
          refine rr_iconst (z := 0) (pc := 52) B dX9_bestOf_52 ?_
          refine rr_istore6 (pc := 53) B dX9_bestOf_53 rfl ?_
          refine ih.2.2.1 _ _ _ _ _ _ _ _ ?_ ?_ ?_ ?_ ?_ ?_ ?_
          · omega
          · exact K1
          · exact K2
          · omega
          · exact ⟨mus_0 _ _, by omega⟩
          · exact ⟨may_0 _ _ (by omega), by omega⟩
          · omega
      · intro M1 h must may d w7 w8 w9 K0 K1 K2 K3 K4 K5 hm
        refine rr_rg (fun G1 => ?_)
        refine rr_iload6 (pc := 55) B dX9_bestOf_55 ?_
        refine rr_iload1 (pc := 57) B dX9_bestOf_57 ?_
        refine rr_icmp_ge 117 (pc := 58) B dX9_bestOf_58 (by decide) (by omega) (fun b1 => ?_) (fun b1 => ?_)
        · refine rr_iconst (z := 0) (pc := 117) B dX9_bestOf_117 ?_
          refine rr_istore6 (pc := 118) B dX9_bestOf_118 rfl ?_
          refine ih.2.2.2.1 _ _ _ _ _ _ _ _ ?_ ?_ ?_ ?_ ?_ ?_ ?_ ?_
          · omega
          · exact K1
          · exact K2
          · rw [show m = d by omega]; exact K4
          · rw [show m = d by omega]; exact K5
          · omega
          · intro s h0 h1; omega
          · omega
        · refine rr_iload4 (pc := 61) B dX9_bestOf_61 ?_
          refine rr_aload0 (pc := 63) B dX9_bestOf_63 ?_
          refine rr_getR (pc := 64) B dX9_bestOf_64 fl_9_67 or_9_21 ?_
          refine rr_iload6 (pc := 67) B dX9_bestOf_67 ?_
          refine rr_ialoadE (pc := 69) B dX9_bestOf_69 sa_64 (by omega) (K1 64 _ rfl) (fun b2 => ?_)
          refine rr_iload3 (pc := 70) B dX9_bestOf_70 ?_
          refine rr_icmp_ne 81 (pc := 71) B dX9_bestOf_71 (by decide) (by omega) (fun b3 => ?_) (fun b3 => ?_)
          · refine rr_iconst (z := 0) (pc := 81) B dX9_bestOf_81 ?_
            refine rr_orN 8 (pc := 82) B dX9_bestOf_82 (by decide) (by have q0 := K4.1.1; first | omega | (have q2 := p2_le (a := d) (b := 7) (by omega); have q3 : p2 7 = 128 := rfl; omega)) (fun b4 => ?_)
            refine rr_istore4 (pc := 83) B dX9_bestOf_83 rfl ?_
            refine rr_iload5 (pc := 85) B dX9_bestOf_85 ?_
            refine rr_aload0 (pc := 87) B dX9_bestOf_87 ?_
            refine rr_getR (pc := 88) B dX9_bestOf_88 fl_9_67 or_9_21 ?_
            refine rr_iload6 (pc := 91) B dX9_bestOf_91 ?_
            refine rr_ialoadE (pc := 93) B dX9_bestOf_93 sa_64 (by omega) (K1 64 _ rfl) (fun b5 => ?_)
            refine rr_iload3 (pc := 94) B dX9_bestOf_94 ?_
            refine rr_icmp_ne 102 (pc := 95) B dX9_bestOf_95 (by decide) (by omega) (fun b6 => ?_) (fun b6 => ?_)
            · refine rr_iconst (z := 1) (pc := 102) B dX9_bestOf_102 ?_
              refine rr_iload6 (pc := 103) B dX9_bestOf_103 ?_
              refine rr_shl1 (pc := 105) B dX9_bestOf_105 (by omega) (fun b7 => ?_)
              refine rr_iconst (z := (-1)) (pc := 106) B dX9_bestOf_106 ?_
              refine rr_inot (pc := 107) B dX9_bestOf_107 ?_
              refine rr_andD (pc := 108) B dX9_bestOf_108 (by have := K5.1.1; omega) (fun b8 => ?_)
              refine rr_istore5 (pc := 109) B dX9_bestOf_109 rfl ?_
              refine rr_iinc6 (z := 1) (pc := 111) B dX9_bestOf_111 rfl ?_
              refine rr_goto 55 (pc := 114) B dX9_bestOf_114 (by decide) ?_
              refine ih.2.2.1 _ _ _ _ _ _ _ _ ?_ ?_ ?_ ?_ ?_ ?_ ?_
              · omega
              · exact K1
              · exact K2
              · omega
              · first
                  | (exfalso; omega)
                  | (refine ⟨?_, by omega⟩; have z := mus_s K3.1 K4.1; rw [if_pos (by assumption)] at z; exact z)
                  | (refine ⟨?_, by omega⟩; have z := mus_s K3.1 K4.1; rw [if_neg (by assumption)] at z; exact z)
              · first | (exfalso; omega) | exact ⟨may_t (by omega) K5.1 (by assumption), by omega⟩ | exact ⟨may_f K3.1 K5.1 (by assumption), by omega⟩
              · omega
            · refine rr_iload2 (pc := 98) B dX9_bestOf_98 ?_
              refine rr_goto 108 (pc := 99) B dX9_bestOf_99 (by decide) ?_
              refine rr_andN (pc := 108) B dX9_bestOf_108 (by have := K5.1.1; omega) (fun b7 => ?_)
              refine rr_istore5 (pc := 109) B dX9_bestOf_109 rfl ?_
              refine rr_iinc6 (z := 1) (pc := 111) B dX9_bestOf_111 rfl ?_
              refine rr_goto 55 (pc := 114) B dX9_bestOf_114 (by decide) ?_
              refine ih.2.2.1 _ _ _ _ _ _ _ _ ?_ ?_ ?_ ?_ ?_ ?_ ?_
              · omega
              · exact K1
              · exact K2
              · omega
              · first
                  | (exfalso; omega)
                  | (refine ⟨?_, by omega⟩; have z := mus_s K3.1 K4.1; rw [if_pos (by assumption)] at z; exact z)
                  | (refine ⟨?_, by omega⟩; have z := mus_s K3.1 K4.1; rw [if_neg (by assumption)] at z; exact z)
              · first | (exfalso; omega) | exact ⟨may_t (by omega) K5.1 (by assumption), by omega⟩ | exact ⟨may_f K3.1 K5.1 (by assumption), by omega⟩
              · omega
          · refine rr_iconst (z := 1) (pc := 74) B dX9_bestOf_74 ?_
            refine rr_iload6 (pc := 75) B dX9_bestOf_75 ?_
            refine rr_shl1 (pc := 77) B dX9_bestOf_77 (by omega) (fun b4 => ?_)
            refine rr_goto 82 (pc := 78) B dX9_bestOf_78 (by decide) ?_
            refine rr_orN 8 (pc := 82) B dX9_bestOf_82 (by decide) (by have q0 := K4.1.1; first | omega | (have q2 := p2_le (a := d) (b := 7) (by omega); have q3 : p2 7 = 128 := rfl; omega)) (fun b5 => ?_)
            refine rr_istore4 (pc := 83) B dX9_bestOf_83 rfl ?_
            refine rr_iload5 (pc := 85) B dX9_bestOf_85 ?_
            refine rr_aload0 (pc := 87) B dX9_bestOf_87 ?_
            refine rr_getR (pc := 88) B dX9_bestOf_88 fl_9_67 or_9_21 ?_
            refine rr_iload6 (pc := 91) B dX9_bestOf_91 ?_
            refine rr_ialoadE (pc := 93) B dX9_bestOf_93 sa_64 (by omega) (K1 64 _ rfl) (fun b6 => ?_)
            refine rr_iload3 (pc := 94) B dX9_bestOf_94 ?_
            refine rr_icmp_ne 102 (pc := 95) B dX9_bestOf_95 (by decide) (by omega) (fun b7 => ?_) (fun b7 => ?_)
            · refine rr_iconst (z := 1) (pc := 102) B dX9_bestOf_102 ?_
              refine rr_iload6 (pc := 103) B dX9_bestOf_103 ?_
              refine rr_shl1 (pc := 105) B dX9_bestOf_105 (by omega) (fun b8 => ?_)
              refine rr_iconst (z := (-1)) (pc := 106) B dX9_bestOf_106 ?_
              refine rr_inot (pc := 107) B dX9_bestOf_107 ?_
              refine rr_andD (pc := 108) B dX9_bestOf_108 (by have := K5.1.1; omega) (fun b9 => ?_)
              refine rr_istore5 (pc := 109) B dX9_bestOf_109 rfl ?_
              refine rr_iinc6 (z := 1) (pc := 111) B dX9_bestOf_111 rfl ?_
              refine rr_goto 55 (pc := 114) B dX9_bestOf_114 (by decide) ?_
              refine ih.2.2.1 _ _ _ _ _ _ _ _ ?_ ?_ ?_ ?_ ?_ ?_ ?_
              · omega
              · exact K1
              · exact K2
              · omega
              · first
                  | (exfalso; omega)
                  | (refine ⟨?_, by omega⟩; have z := mus_s K3.1 K4.1; rw [if_pos (by assumption)] at z; exact z)
                  | (refine ⟨?_, by omega⟩; have z := mus_s K3.1 K4.1; rw [if_neg (by assumption)] at z; exact z)
              · first | (exfalso; omega) | exact ⟨may_t (by omega) K5.1 (by assumption), by omega⟩ | exact ⟨may_f K3.1 K5.1 (by assumption), by omega⟩
              · omega
            · refine rr_iload2 (pc := 98) B dX9_bestOf_98 ?_
              refine rr_goto 108 (pc := 99) B dX9_bestOf_99 (by decide) ?_
              refine rr_andN (pc := 108) B dX9_bestOf_108 (by have := K5.1.1; omega) (fun b8 => ?_)
              refine rr_istore5 (pc := 109) B dX9_bestOf_109 rfl ?_
              refine rr_iinc6 (z := 1) (pc := 111) B dX9_bestOf_111 rfl ?_
              refine rr_goto 55 (pc := 114) B dX9_bestOf_114 (by decide) ?_
              refine ih.2.2.1 _ _ _ _ _ _ _ _ ?_ ?_ ?_ ?_ ?_ ?_ ?_
              · omega
              · exact K1
              · exact K2
              · omega
              · first
                  | (exfalso; omega)
                  | (refine ⟨?_, by omega⟩; have z := mus_s K3.1 K4.1; rw [if_pos (by assumption)] at z; exact z)
                  | (refine ⟨?_, by omega⟩; have z := mus_s K3.1 K4.1; rw [if_neg (by assumption)] at z; exact z)
              · first | (exfalso; omega) | exact ⟨may_t (by omega) K5.1 (by assumption), by omega⟩ | exact ⟨may_f K3.1 K5.1 (by assumption), by omega⟩
              · omega
      · intro M1 h must may set w7 w8 w9 K0 K1 K2 K3 K4 K5 K6 hm
        refine rr_rg (fun G1 => ?_)
        refine rr_iload6 (pc := 120) B dX9_bestOf_120 ?_
        refine rr_iload2 (pc := 122) B dX9_bestOf_122 ?_
        refine rr_icmp_gt 291 (pc := 123) B dX9_bestOf_123 (by decide) (by omega) (fun b1 => ?_) (fun b1 => ?_)
        · refine rr_iconst (z := 0) (pc := 291) B dX9_bestOf_291 ?_
          refine rr_istore6 (pc := 292) B dX9_bestOf_292 rfl ?_
          refine ih.2.2.2.2.2.2.1 _ _ _ _ _ _ _ _ ?_ ?_ ?_ ?_ ?_ ?_
          · omega
          · exact K1
          · refine ls_s (B := 10000) (by omega) (by omega) (by decide) HBD K2 (fun s t a b c d e f => ?_) (fun s a b c => ?_)
            · exact (K6 s a (by omega)).1 t (by omega) c d e f
            · exact (K6 s a (by omega)).2 c
          · omega
          · intro t h0 h1; omega
          · omega
        · refine rr_aload0 (pc := 126) B dX9_bestOf_126 ?_
          refine rr_getR (pc := 127) B dX9_bestOf_127 fl_9_64 or_9_20 ?_
          refine rr_iload6 (pc := 130) B dX9_bestOf_130 ?_
          refine rr_ldc (z := 1000000) (pc := 132) B dX9_bestOf_132 cn_9_188 (by decide) ?_
          refine rr_iastore (pc := 134) B dX9_bestOf_134 sa_63 (by omega) (by omega) ?_
          refine rr_iload6 (pc := 135) B dX9_bestOf_135 ?_
          refine rr_istore7 (pc := 137) B dX9_bestOf_137 rfl ?_
          refine rr_iconst (z := 1) (pc := 139) B dX9_bestOf_139 ?_
          refine rr_istore8 (pc := 140) B dX9_bestOf_140 rfl ?_
          refine ih.2.2.2.2.1 _ _ _ _ _ _ _ _ ?_ ?_ ?_ ?_ ?_ ?_ ?_ ?_ ?_ ?_ ?_
          · omega
          · exact frm_ms K1 (by simp [exB])
          · exact K2
          · exact K3
          · exact K4
          · omega
          · intro s h0 h1
            show gR V (M 64) m h (M1 62) (ms M1 63 set 1000000 63 s) s (-1)
            rw [ms_off (by omega)]; exact K6 s h0 h1
          · omega
          · intro _
            refine ⟨by omega, fun k hk e => e, ?_⟩
            show gR V (M 64) m h (M1 62) (ms M1 63 set 1000000 63 set) set set
            rw [ms_at]; exact gR_start (by omega)
          · intro q; omega
          · first | (have q := nA_le (here - 1) set (by omega) (by omega); (repeat' split) <;> omega) | ((repeat' split) <;> omega) | omega
      · intro M1 h must may set here more w9 K0 K1 K2 K3 K4 K5 K6 K7 K8 K9 hm
        refine rr_rg (fun G1 => ?_)
        refine rr_iload8 (pc := 142) B dX9_bestOf_142 ?_
        refine rr_if_eq 285 (pc := 144) B dX9_bestOf_144 (by decide) (by omega) (fun b1 => ?_) (fun b1 => ?_)
        · refine rr_iinc6 (z := 1) (pc := 285) B dX9_bestOf_285 rfl ?_
          refine rr_goto 120 (pc := 288) B dX9_bestOf_288 (by decide) ?_
          refine ih.2.2.2.1 _ _ _ _ _ _ _ _ ?_ ?_ ?_ ?_ ?_ ?_ ?_ ?_
          · omega
          · exact K1
          · exact K2
          · exact K3
          · exact K4
          · omega
          · intro s h0 h1
            rcases Int.lt_or_eq_of_le (show s ≤ set by omega) with q | q
            · exact K6 s h0 q
            · rw [q]; exact K9 (by omega)
          · omega
        · have E1 : more = 1 := by omega
          have E1' := K8 E1
          have E2 := E1'.2.1
          have E3 := E1'.2.2
          have VMI := vM_iff (V := V) (fx := M 64) (n := V 9 2) (m := m) (h := h) (t := here) (by omega) K3.1 K4.1 (by omega) (fun k hk e => MB here k (by omega) (by omega) e)
          refine rr_iload7 (pc := 147) B dX9_bestOf_147 ?_
          refine rr_iload4 (pc := 149) B dX9_bestOf_149 ?_
          refine rr_andN (pc := 151) B dX9_bestOf_151 (by have := K3.1.1; omega) (fun b2 => ?_)
          refine rr_iload4 (pc := 152) B dX9_bestOf_152 ?_
          refine rr_icmp_ne 261 (pc := 154) B dX9_bestOf_154 (by decide) (by omega) (fun b3 => ?_) (fun b3 => ?_)
          · refine ih.2.2.2.2.2.1 _ _ _ _ _ _ _ _ ?_ ?_ ?_ ?_ ?_ ?_ ?_ ?_ ?_ ?_ ?_
            · omega
            · first | exact K1 | exact frm_ms K1 (by simp [exB])
            · exact K2
            · exact K3
            · exact K4
            · omega
            · first | exact K6 | (intro s h0 h1; show gR V (M 64) m h (M1 62) (ms M1 63 set _ 63 s) s (-1); rw [ms_off (by omega)]; exact K6 s h0 h1)
            · omega
            · exact E2
            · first
                | exact gR_skip E3 (fun z => by have z1 := VMI.mp z.1; have z2 := z.2; omega)
                | (show gR V (M 64) m h (M1 62) (ms M1 63 set _ 63 set) set (here - 1)
                   rw [ms_at]
                   have z := gR_take E3 (by omega) E2 (VMI.mpr ⟨⟨by omega, by omega⟩, by omega⟩) (by assumption)
                   first | (rw [if_pos (by assumption)] at z; exact z) | (rw [if_neg (by omega)] at z; exact z))
            · first | (simp only [E1] at hm; omega) | omega
          · refine rr_iload7 (pc := 157) B dX9_bestOf_157 ?_
            refine rr_iload5 (pc := 159) B dX9_bestOf_159 ?_
            refine rr_iconst (z := (-1)) (pc := 161) B dX9_bestOf_161 ?_
            refine rr_inot (pc := 162) B dX9_bestOf_162 ?_
            refine rr_andD (pc := 163) B dX9_bestOf_163 (by have := K4.1.1; omega) (fun b4 => ?_)
            refine rr_if_ne 261 (pc := 164) B dX9_bestOf_164 (by decide) (by omega) (fun b5 => ?_) (fun b5 => ?_)
            · refine ih.2.2.2.2.2.1 _ _ _ _ _ _ _ _ ?_ ?_ ?_ ?_ ?_ ?_ ?_ ?_ ?_ ?_ ?_
              · omega
              · first | exact K1 | exact frm_ms K1 (by simp [exB])
              · exact K2
              · exact K3
              · exact K4
              · omega
              · first | exact K6 | (intro s h0 h1; show gR V (M 64) m h (M1 62) (ms M1 63 set _ 63 s) s (-1); rw [ms_off (by omega)]; exact K6 s h0 h1)
              · omega
              · exact E2
              · first
                  | exact gR_skip E3 (fun z => by have z1 := VMI.mp z.1; have z2 := z.2; omega)
                  | (show gR V (M 64) m h (M1 62) (ms M1 63 set _ 63 set) set (here - 1)
                     rw [ms_at]
                     have z := gR_take E3 (by omega) E2 (VMI.mpr ⟨⟨by omega, by omega⟩, by omega⟩) (by assumption)
                     first | (rw [if_pos (by assumption)] at z; exact z) | (rw [if_neg (by omega)] at z; exact z))
              · first | (simp only [E1] at hm; omega) | omega
            · refine rr_aload0 (pc := 167) B dX9_bestOf_167 ?_
              refine rr_getR (pc := 168) B dX9_bestOf_168 fl_9_58 or_9_18 ?_
              refine rr_sipush (z := 256) (pc := 171) B dX9_bestOf_171 (by decide) ?_
              refine rr_iload3 (pc := 174) B dX9_bestOf_174 ?_
              refine rr_imul (pc := 175) B dX9_bestOf_175 ?_
              refine rr_iload7 (pc := 176) B dX9_bestOf_176 ?_
              refine rr_iadd (pc := 178) B dX9_bestOf_178 ?_
              refine rr_ialoadE (pc := 179) B dX9_bestOf_179 sa_61 (by omega) ((K1 61 _ rfl).trans (H2 _ _ (by omega) (by omega) (by omega) (by omega))) (fun b6 => ?_)
              refine rr_ldc (z := 1000000) (pc := 180) B dX9_bestOf_180 cn_9_188 (by decide) ?_
              refine rr_icmp_ge 261 (pc := 182) B dX9_bestOf_182 (by decide) (by have := CT1 here h; omega) (fun b7 => ?_) (fun b7 => ?_)
              · refine ih.2.2.2.2.2.1 _ _ _ _ _ _ _ _ ?_ ?_ ?_ ?_ ?_ ?_ ?_ ?_ ?_ ?_ ?_
                · omega
                · first | exact K1 | exact frm_ms K1 (by simp [exB])
                · exact K2
                · exact K3
                · exact K4
                · omega
                · first | exact K6 | (intro s h0 h1; show gR V (M 64) m h (M1 62) (ms M1 63 set _ 63 s) s (-1); rw [ms_off (by omega)]; exact K6 s h0 h1)
                · omega
                · exact E2
                · first
                    | exact gR_skip E3 (fun z => by have z1 := VMI.mp z.1; have z2 := z.2; omega)
                    | (show gR V (M 64) m h (M1 62) (ms M1 63 set _ 63 set) set (here - 1)
                       rw [ms_at]
                       have z := gR_take E3 (by omega) E2 (VMI.mpr ⟨⟨by omega, by omega⟩, by omega⟩) (by assumption)
                       first | (rw [if_pos (by assumption)] at z; exact z) | (rw [if_neg (by omega)] at z; exact z))
                · first | (simp only [E1] at hm; omega) | omega
              · refine rr_aload0 (pc := 185) B dX9_bestOf_185 ?_
                refine rr_getR (pc := 186) B dX9_bestOf_186 fl_9_61 or_9_19 ?_
                refine rr_iload6 (pc := 189) B dX9_bestOf_189 ?_
                refine rr_iload7 (pc := 191) B dX9_bestOf_191 ?_
                refine rr_iconst (z := (-1)) (pc := 193) B dX9_bestOf_193 ?_
                refine rr_inot (pc := 194) B dX9_bestOf_194 ?_
                refine rr_andD (pc := 195) B dX9_bestOf_195 (by omega) (fun b8 => ?_)
                refine rr_iaload (pc := 196) B dX9_bestOf_196 sa_62 (by omega) (fun b9 => ?_)
                refine rr_ldc (z := 1000000) (pc := 197) B dX9_bestOf_197 cn_9_188 (by decide) ?_
                refine rr_icmp_ge 261 (pc := 199) B dX9_bestOf_199 (by decide) (by omega) (fun b10 => ?_) (fun b10 => ?_)
                · refine ih.2.2.2.2.2.1 _ _ _ _ _ _ _ _ ?_ ?_ ?_ ?_ ?_ ?_ ?_ ?_ ?_ ?_ ?_
                  · omega
                  · first | exact K1 | exact frm_ms K1 (by simp [exB])
                  · exact K2
                  · exact K3
                  · exact K4
                  · omega
                  · first | exact K6 | (intro s h0 h1; show gR V (M 64) m h (M1 62) (ms M1 63 set _ 63 s) s (-1); rw [ms_off (by omega)]; exact K6 s h0 h1)
                  · omega
                  · exact E2
                  · first
                      | exact gR_skip E3 (fun z => by have z1 := VMI.mp z.1; have z2 := z.2; omega)
                      | (show gR V (M 64) m h (M1 62) (ms M1 63 set _ 63 set) set (here - 1)
                         rw [ms_at]
                         have z := gR_take E3 (by omega) E2 (VMI.mpr ⟨⟨by omega, by omega⟩, by omega⟩) (by assumption)
                         first | (rw [if_pos (by assumption)] at z; exact z) | (rw [if_neg (by omega)] at z; exact z))
                  · first | (simp only [E1] at hm; omega) | omega
                · refine rr_aload0 (pc := 202) B dX9_bestOf_202 ?_
                  refine rr_getR (pc := 203) B dX9_bestOf_203 fl_9_61 or_9_19 ?_
                  refine rr_iload6 (pc := 206) B dX9_bestOf_206 ?_
                  refine rr_iload7 (pc := 208) B dX9_bestOf_208 ?_
                  refine rr_iconst (z := (-1)) (pc := 210) B dX9_bestOf_210 ?_
                  refine rr_inot (pc := 211) B dX9_bestOf_211 ?_
                  refine rr_andD (pc := 212) B dX9_bestOf_212 (by omega) (fun b11 => ?_)
                  refine rr_iaload (pc := 213) B dX9_bestOf_213 sa_62 (by omega) (fun b12 => ?_)
                  refine rr_aload0 (pc := 214) B dX9_bestOf_214 ?_
                  refine rr_getR (pc := 215) B dX9_bestOf_215 fl_9_58 or_9_18 ?_
                  refine rr_sipush (z := 256) (pc := 218) B dX9_bestOf_218 (by decide) ?_
                  refine rr_iload3 (pc := 221) B dX9_bestOf_221 ?_
                  refine rr_imul (pc := 222) B dX9_bestOf_222 ?_
                  refine rr_iload7 (pc := 223) B dX9_bestOf_223 ?_
                  refine rr_iadd (pc := 225) B dX9_bestOf_225 ?_
                  refine rr_ialoadE (pc := 226) B dX9_bestOf_226 sa_61 (by omega) ((K1 61 _ rfl).trans (H2 _ _ (by omega) (by omega) (by omega) (by omega))) (fun b13 => ?_)
                  refine rr_iadd (pc := 227) B dX9_bestOf_227 ?_
                  refine rr_istore9 (pc := 228) B dX9_bestOf_228 rfl ?_
                  refine rr_aload0 (pc := 230) B dX9_bestOf_230 ?_
                  refine rr_getR (pc := 231) B dX9_bestOf_231 fl_9_64 or_9_20 ?_
                  refine rr_iload6 (pc := 234) B dX9_bestOf_234 ?_
                  refine rr_iload9 (pc := 236) B dX9_bestOf_236 ?_
                  refine rr_aload0 (pc := 238) B dX9_bestOf_238 ?_
                  refine rr_getR (pc := 239) B dX9_bestOf_239 fl_9_64 or_9_20 ?_
                  refine rr_iload6 (pc := 242) B dX9_bestOf_242 ?_
                  refine rr_iaload (pc := 244) B dX9_bestOf_244 sa_63 (by omega) (fun b14 => ?_)
                  refine rr_icmp_ge 253 (pc := 245) B dX9_bestOf_245 (by decide) (by have := CT1 here h; omega) (fun b15 => ?_) (fun b15 => ?_)
                  · refine rr_aload0 (pc := 253) B dX9_bestOf_253 ?_
                    refine rr_getR (pc := 254) B dX9_bestOf_254 fl_9_64 or_9_20 ?_
                    refine rr_iload6 (pc := 257) B dX9_bestOf_257 ?_
                    refine rr_iaload (pc := 259) B dX9_bestOf_259 sa_63 (by omega) (fun b16 => ?_)
                    refine rr_iastore (pc := 260) B dX9_bestOf_260 sa_63 (by omega) (by have := CT1 here h; omega) ?_
                    refine ih.2.2.2.2.2.1 _ _ _ _ _ _ _ _ ?_ ?_ ?_ ?_ ?_ ?_ ?_ ?_ ?_ ?_ ?_
                    · omega
                    · first | exact K1 | exact frm_ms K1 (by simp [exB])
                    · exact K2
                    · exact K3
                    · exact K4
                    · omega
                    · first | exact K6 | (intro s h0 h1; show gR V (M 64) m h (M1 62) (ms M1 63 set _ 63 s) s (-1); rw [ms_off (by omega)]; exact K6 s h0 h1)
                    · omega
                    · exact E2
                    · first
                        | exact gR_skip E3 (fun z => by have z1 := VMI.mp z.1; have z2 := z.2; omega)
                        | (show gR V (M 64) m h (M1 62) (ms M1 63 set _ 63 set) set (here - 1)
                           rw [ms_at]
                           have z := gR_take E3 (by omega) E2 (VMI.mpr ⟨⟨by omega, by omega⟩, by omega⟩) (by assumption)
                           first | (rw [if_pos (by assumption)] at z; exact z) | (rw [if_neg (by omega)] at z; exact z))
                    · first | (simp only [E1] at hm; omega) | omega
                  · refine rr_iload9 (pc := 248) B dX9_bestOf_248 ?_
                    refine rr_goto 260 (pc := 250) B dX9_bestOf_250 (by decide) ?_
                    refine rr_iastore (pc := 260) B dX9_bestOf_260 sa_63 (by omega) (by have := CT1 here h; omega) ?_
                    refine ih.2.2.2.2.2.1 _ _ _ _ _ _ _ _ ?_ ?_ ?_ ?_ ?_ ?_ ?_ ?_ ?_ ?_ ?_
                    · omega
                    · first | exact K1 | exact frm_ms K1 (by simp [exB])
                    · exact K2
                    · exact K3
                    · exact K4
                    · omega
                    · first | exact K6 | (intro s h0 h1; show gR V (M 64) m h (M1 62) (ms M1 63 set _ 63 s) s (-1); rw [ms_off (by omega)]; exact K6 s h0 h1)
                    · omega
                    · exact E2
                    · first
                        | exact gR_skip E3 (fun z => by have z1 := VMI.mp z.1; have z2 := z.2; omega)
                        | (show gR V (M 64) m h (M1 62) (ms M1 63 set _ 63 set) set (here - 1)
                           rw [ms_at]
                           have z := gR_take E3 (by omega) E2 (VMI.mpr ⟨⟨by omega, by omega⟩, by omega⟩) (by assumption)
                           first | (rw [if_pos (by assumption)] at z; exact z) | (rw [if_neg (by omega)] at z; exact z))
                    · first | (simp only [E1] at hm; omega) | omega
      · intro M1 h must may set here z8 w9 K0 K1 K2 K3 K4 K5 K6 K7 K8 K9 hm
        refine rr_rg (fun G1 => ?_)
        refine rr_iload7 (pc := 261) B dX9_bestOf_261 ?_
        refine rr_if_eq 270 (pc := 263) B dX9_bestOf_263 (by decide) (by omega) (fun b1 => ?_) (fun b1 => ?_)
        · refine rr_iconst (z := 0) (pc := 270) B dX9_bestOf_270 ?_
          refine rr_istore8 (pc := 271) B dX9_bestOf_271 rfl ?_
          refine rr_iload7 (pc := 273) B dX9_bestOf_273 ?_
          refine rr_iconst (z := 1) (pc := 275) B dX9_bestOf_275 ?_
          refine rr_isub (pc := 276) B dX9_bestOf_276 ?_
          refine rr_iload6 (pc := 277) B dX9_bestOf_277 ?_
          refine rr_andM (pc := 279) B dX9_bestOf_279 (by omega) ?_
          refine rr_istore7 (pc := 280) B dX9_bestOf_280 rfl ?_
          refine rr_goto 142 (pc := 282) B dX9_bestOf_282 (by decide) ?_
          refine ih.2.2.2.2.1 _ _ _ _ _ _ _ _ ?_ ?_ ?_ ?_ ?_ ?_ ?_ ?_ ?_ ?_ ?_
          · omega
          · exact K1
          · exact K2
          · exact K3
          · exact K4
          · omega
          · exact K6
          · first | (rw [if_pos (by omega)]; omega) | (rw [if_neg (by omega)]; have := nA_le (here - 1) set (by omega) (by omega); omega)
          · first | (intro q; omega) | (intro _; rw [if_neg (by omega)]; exact ⟨(nA_le (here - 1) set (by omega) (by omega)).2.2, sub_nA _ _, gR_next K9 (by omega) (by omega) K8⟩)
          · first | (intro q; omega) | (intro _; have z := K9; rw [show here - 1 = -1 by omega] at z; exact z)
          · first | (have q := nA_le (here - 1) set (by omega) (by omega); (repeat' split) <;> omega) | ((repeat' split) <;> omega) | omega
        · refine rr_iconst (z := 1) (pc := 266) B dX9_bestOf_266 ?_
          refine rr_goto 271 (pc := 267) B dX9_bestOf_267 (by decide) ?_
          refine rr_istore8 (pc := 271) B dX9_bestOf_271 rfl ?_
          refine rr_iload7 (pc := 273) B dX9_bestOf_273 ?_
          refine rr_iconst (z := 1) (pc := 275) B dX9_bestOf_275 ?_
          refine rr_isub (pc := 276) B dX9_bestOf_276 ?_
          refine rr_iload6 (pc := 277) B dX9_bestOf_277 ?_
          refine rr_andM (pc := 279) B dX9_bestOf_279 (by omega) ?_
          refine rr_istore7 (pc := 280) B dX9_bestOf_280 rfl ?_
          refine rr_goto 142 (pc := 282) B dX9_bestOf_282 (by decide) ?_
          refine ih.2.2.2.2.1 _ _ _ _ _ _ _ _ ?_ ?_ ?_ ?_ ?_ ?_ ?_ ?_ ?_ ?_ ?_
          · omega
          · exact K1
          · exact K2
          · exact K3
          · exact K4
          · omega
          · exact K6
          · first | (rw [if_pos (by omega)]; omega) | (rw [if_neg (by omega)]; have := nA_le (here - 1) set (by omega) (by omega); omega)
          · first | (intro q; omega) | (intro _; rw [if_neg (by omega)]; exact ⟨(nA_le (here - 1) set (by omega) (by omega)).2.2, sub_nA _ _, gR_next K9 (by omega) (by omega) K8⟩)
          · first | (intro q; omega) | (intro _; have z := K9; rw [show here - 1 = -1 by omega] at z; exact z)
          · first | (have q := nA_le (here - 1) set (by omega) (by omega); (repeat' split) <;> omega) | ((repeat' split) <;> omega) | omega
      · intro M1 h must may s w7 w8 w9 K0 K1 K2 K3 K4 hm
        refine rr_rg (fun G1 => ?_)
        refine rr_iload6 (pc := 294) B dX9_bestOf_294 ?_
        refine rr_iload2 (pc := 296) B dX9_bestOf_296 ?_
        refine rr_icmp_gt 320 (pc := 297) B dX9_bestOf_297 (by decide) (by omega) (fun b1 => ?_) (fun b1 => ?_)
        · refine rr_iinc3 (z := 1) (pc := 320) B dX9_bestOf_320 rfl ?_
          refine rr_goto 40 (pc := 323) B dX9_bestOf_323 (by decide) ?_
          refine ih.2.1 _ _ _ _ _ _ _ _ ?_ ?_ ?_ ?_
          · omega
          · exact K1
          · exact ls_cg K2 (fun t h0 h1 => K4 t h0 (by omega))
          · omega
        · refine rr_aload0 (pc := 300) B dX9_bestOf_300 ?_
          refine rr_getR (pc := 301) B dX9_bestOf_301 fl_9_61 or_9_19 ?_
          refine rr_iload6 (pc := 304) B dX9_bestOf_304 ?_
          refine rr_aload0 (pc := 306) B dX9_bestOf_306 ?_
          refine rr_getR (pc := 307) B dX9_bestOf_307 fl_9_64 or_9_20 ?_
          refine rr_iload6 (pc := 310) B dX9_bestOf_310 ?_
          refine rr_iaload (pc := 312) B dX9_bestOf_312 sa_63 (by omega) (fun b2 => ?_)
          refine rr_iastore (pc := 313) B dX9_bestOf_313 sa_62 (by omega) (by omega) ?_
          refine rr_iinc6 (z := 1) (pc := 314) B dX9_bestOf_314 rfl ?_
          refine rr_goto 294 (pc := 317) B dX9_bestOf_317 (by decide) ?_
          refine ih.2.2.2.2.2.2.1 _ _ _ _ _ _ _ _ ?_ ?_ ?_ ?_ ?_ ?_
          · omega
          · exact frm_ms K1 (by simp [exB])
          · exact K2
          · omega
          · intro t h0 h1
            by_cases q : t = s
            · subst q; exact ms_at _ _ _ _
            · rw [ms_off q]; exact K4 t h0 (by omega)
          · omega
      · intro M1 s w4 w5 w6 w7 w8 w9 K0 K1 K2 K3 K4 hm
        refine rr_rg (fun G1 => ?_)
        have AG := ag_B HV K1
        have WR := wth_r V s ⟨D0, D8⟩ (fun j h0 h1 => by have := G1.at (sa_50.2.2 j); rw [AG 50 j ⟨h0, h1⟩] at this; exact this)
        refine rr_iload3 (pc := 338) B dX9_bestOf_338 ?_
        refine rr_iload2 (pc := 339) B dX9_bestOf_339 ?_
        refine rr_icmp_gt 449 (pc := 340) B dX9_bestOf_340 (by decide) (by omega) (fun b1 => ?_) (fun b1 => ?_)
        · refine rr_return (pc := 449) B Br dX9_bestOf_449 ⟨rfl, ?_⟩
          · exact ⟨best_of ⟨D0, D8⟩ H1 H3 (by have := G1.at (sa_60.2.2 2); rw [AG 60 2 trivial] at this; omega) K2 (fun t h0 h1 => K3 t h0 (by omega)) (by have z := K4; rw [show s = p2 (V 9 2) by omega] at z; exact z), K1⟩
        · refine rr_aload0 (pc := 343) B dX9_bestOf_343 ?_
          refine rr_iload3 (pc := 344) B dX9_bestOf_344 ?_
          refine rc_VI1 (pc := 345) B dX9_bestOf_345 vm_X9_worthBy lk_9_195 so_9 rfl (ct_X9_worthBy _ _ _ V (AG) (by first | exact AG | omega)) (Nat.le_of_ble_eq_true rfl) (Nat.le_of_ble_eq_true rfl) ?_
          refine rr_istore4 (pc := 348) B dX9_bestOf_348 rfl ?_
          refine rr_aload0 (pc := 350) B dX9_bestOf_350 ?_
          refine rr_getR (pc := 351) B dX9_bestOf_351 fl_9_61 or_9_19 ?_
          refine rr_iload3 (pc := 354) B dX9_bestOf_354 ?_
          refine rr_iaload (pc := 355) B dX9_bestOf_355 sa_62 (by omega) (fun b2 => ?_)
          refine rr_aload0 (pc := 356) B dX9_bestOf_356 ?_
          refine rr_getR (pc := 357) B dX9_bestOf_357 fl_9_55 or_9_17 ?_
          refine rr_iconst (z := 2) (pc := 360) B dX9_bestOf_360 ?_
          refine rr_ialoadE (pc := 361) B dX9_bestOf_361 sa_60 (by omega) ((K1 60 _ rfl).trans (HV 60 _ trivial)) (fun b3 => ?_)
          refine rr_icmp_gt 400 (pc := 362) B dX9_bestOf_362 (by decide) (by omega) (fun b4 => ?_) (fun b4 => ?_)
          · refine rr_iconst (z := 0) (pc := 400) B dX9_bestOf_400 ?_
            refine rr_istore5 (pc := 401) B dX9_bestOf_401 rfl ?_
            refine rr_aload0 (pc := 403) B dX9_bestOf_403 ?_
            refine rr_iload5 (pc := 404) B dX9_bestOf_404 ?_
            refine rr_if_eq 414 (pc := 406) B dX9_bestOf_406 (by decide) (by omega) (fun b5 => ?_) (fun b5 => absurd b5 (by omega))
            refine rr_aload0 (pc := 414) B dX9_bestOf_414 ?_
            refine rr_getI (pc := 415) B dX9_bestOf_415 fl_9_189 ob_9_22 (fun b6 => ?_)
            refine rr_putI (pc := 418) B dX9_bestOf_418 fl_9_189 ob_9_22 fi_9_22 (by omega) ?_
            refine rr_aload0 (pc := 421) B dX9_bestOf_421 ?_
            refine rr_iload5 (pc := 422) B dX9_bestOf_422 ?_
            refine rr_if_eq 436 (pc := 424) B dX9_bestOf_424 (by decide) (by omega) (fun b7 => ?_) (fun b7 => absurd b7 (by omega))
            refine rr_aload0 (pc := 436) B dX9_bestOf_436 ?_
            refine rr_getI (pc := 437) B dX9_bestOf_437 fl_9_192 ob_9_23 (fun b8 => ?_)
            refine rr_putI (pc := 440) B dX9_bestOf_440 fl_9_192 ob_9_23 fi_9_23 (by omega) ?_
            refine rr_iinc3 (z := 1) (pc := 443) B dX9_bestOf_443 rfl ?_
            refine rr_goto 338 (pc := 446) B dX9_bestOf_446 (by decide) ?_
            refine ih.2.2.2.2.2.2.2.1 _ _ _ _ _ _ _ _ ?_ ?_ ?_ ?_ ?_ ?_
            · omega
            · exact frm_ms (frm_ms K1 (by simp [exB])) (by simp [exB])
            · exact K2
            · intro t h0 h1 h2
              first
                | (show wth V t < wth V s ∨ wth V t = wth V s ∧ M1 62 s ≤ M1 62 t
                   rcases Int.lt_or_eq_of_le (show t ≤ s by omega) with q | q
                   · have := K3 t h0 q h2; omega
                   · subst q; omega)
                | (show wth V t < M1 9 22 ∨ wth V t = M1 9 22 ∧ M1 9 23 ≤ M1 62 t
                   rcases Int.lt_or_eq_of_le (show t ≤ s by omega) with q | q
                   · exact K3 t h0 q h2
                   · subst q
                     have h2 : M1 62 t ≤ V 60 2 := h2
                     omega)
            · first
                | (right; exact ⟨s, by omega, by omega, by assumption, rfl, rfl⟩)
                | (show M1 9 22 = -1 ∧ M1 9 23 = 0 ∧ (∀ t, 0 ≤ t → t < s + 1 → ¬ M1 62 t ≤ V 60 2) ∨ ∃ t, 0 ≤ t ∧ t < s + 1 ∧ M1 62 t ≤ V 60 2 ∧ wth V t = M1 9 22 ∧ M1 62 t = M1 9 23
                   rcases K4 with ⟨z1, z2, z3⟩ | ⟨t, z1, z2, z3⟩
                   · left
                     refine ⟨z1, z2, fun t h0 h1 => ?_⟩
                     rcases Int.lt_or_eq_of_le (show t ≤ s by omega) with q | q
                     · exact z3 t h0 q
                     · subst q; omega
                   · right; exact ⟨t, z1, by omega, z3⟩)
            · omega
          · refine rr_iload4 (pc := 365) B dX9_bestOf_365 ?_
            refine rr_aload0 (pc := 367) B dX9_bestOf_367 ?_
            refine rr_getI (pc := 368) B dX9_bestOf_368 fl_9_189 ob_9_22 (fun b5 => ?_)
            refine rr_icmp_gt 396 (pc := 371) B dX9_bestOf_371 (by decide) (by omega) (fun b6 => ?_) (fun b6 => ?_)
            · refine rr_iconst (z := 1) (pc := 396) B dX9_bestOf_396 ?_
              refine rr_goto 401 (pc := 397) B dX9_bestOf_397 (by decide) ?_
              refine rr_istore5 (pc := 401) B dX9_bestOf_401 rfl ?_
              refine rr_aload0 (pc := 403) B dX9_bestOf_403 ?_
              refine rr_iload5 (pc := 404) B dX9_bestOf_404 ?_
              refine rr_if_eq 414 (pc := 406) B dX9_bestOf_406 (by decide) (by omega) (fun b7 => absurd b7 (by omega)) (fun b7 => ?_)
              refine rr_iload4 (pc := 409) B dX9_bestOf_409 ?_
              refine rr_goto 418 (pc := 411) B dX9_bestOf_411 (by decide) ?_
              refine rr_putI (pc := 418) B dX9_bestOf_418 fl_9_189 ob_9_22 fi_9_22 (by omega) ?_
              refine rr_aload0 (pc := 421) B dX9_bestOf_421 ?_
              refine rr_iload5 (pc := 422) B dX9_bestOf_422 ?_
              refine rr_if_eq 436 (pc := 424) B dX9_bestOf_424 (by decide) (by omega) (fun b8 => absurd b8 (by omega)) (fun b8 => ?_)
              refine rr_aload0 (pc := 427) B dX9_bestOf_427 ?_
              refine rr_getR (pc := 428) B dX9_bestOf_428 fl_9_61 or_9_19 ?_
              refine rr_iload3 (pc := 431) B dX9_bestOf_431 ?_
              refine rr_iaload (pc := 432) B dX9_bestOf_432 sa_62 (by omega) (fun b9 => ?_)
              refine rr_goto 440 (pc := 433) B dX9_bestOf_433 (by decide) ?_
              refine rr_putI (pc := 440) B dX9_bestOf_440 fl_9_192 ob_9_23 fi_9_23 (by omega) ?_
              refine rr_iinc3 (z := 1) (pc := 443) B dX9_bestOf_443 rfl ?_
              refine rr_goto 338 (pc := 446) B dX9_bestOf_446 (by decide) ?_
              refine ih.2.2.2.2.2.2.2.1 _ _ _ _ _ _ _ _ ?_ ?_ ?_ ?_ ?_ ?_
              · omega
              · exact frm_ms (frm_ms K1 (by simp [exB])) (by simp [exB])
              · exact K2
              · intro t h0 h1 h2
                first
                  | (show wth V t < wth V s ∨ wth V t = wth V s ∧ M1 62 s ≤ M1 62 t
                     rcases Int.lt_or_eq_of_le (show t ≤ s by omega) with q | q
                     · have := K3 t h0 q h2; omega
                     · subst q; omega)
                  | (show wth V t < M1 9 22 ∨ wth V t = M1 9 22 ∧ M1 9 23 ≤ M1 62 t
                     rcases Int.lt_or_eq_of_le (show t ≤ s by omega) with q | q
                     · exact K3 t h0 q h2
                     · subst q
                       have h2 : M1 62 t ≤ V 60 2 := h2
                       omega)
              · first
                  | (right; exact ⟨s, by omega, by omega, by assumption, rfl, rfl⟩)
                  | (show M1 9 22 = -1 ∧ M1 9 23 = 0 ∧ (∀ t, 0 ≤ t → t < s + 1 → ¬ M1 62 t ≤ V 60 2) ∨ ∃ t, 0 ≤ t ∧ t < s + 1 ∧ M1 62 t ≤ V 60 2 ∧ wth V t = M1 9 22 ∧ M1 62 t = M1 9 23
                     rcases K4 with ⟨z1, z2, z3⟩ | ⟨t, z1, z2, z3⟩
                     · left
                       refine ⟨z1, z2, fun t h0 h1 => ?_⟩
                       rcases Int.lt_or_eq_of_le (show t ≤ s by omega) with q | q
                       · exact z3 t h0 q
                       · subst q; omega
                     · right; exact ⟨t, z1, by omega, z3⟩)
              · omega
            · refine rr_iload4 (pc := 374) B dX9_bestOf_374 ?_
              refine rr_aload0 (pc := 376) B dX9_bestOf_376 ?_
              refine rr_getI (pc := 377) B dX9_bestOf_377 fl_9_189 ob_9_22 (fun b7 => ?_)
              refine rr_icmp_ne 400 (pc := 380) B dX9_bestOf_380 (by decide) (by omega) (fun b8 => ?_) (fun b8 => ?_)
              · refine rr_iconst (z := 0) (pc := 400) B dX9_bestOf_400 ?_
                refine rr_istore5 (pc := 401) B dX9_bestOf_401 rfl ?_
                refine rr_aload0 (pc := 403) B dX9_bestOf_403 ?_
                refine rr_iload5 (pc := 404) B dX9_bestOf_404 ?_
                refine rr_if_eq 414 (pc := 406) B dX9_bestOf_406 (by decide) (by omega) (fun b9 => ?_) (fun b9 => absurd b9 (by omega))
                refine rr_aload0 (pc := 414) B dX9_bestOf_414 ?_
                refine rr_getI (pc := 415) B dX9_bestOf_415 fl_9_189 ob_9_22 (fun b10 => ?_)
                refine rr_putI (pc := 418) B dX9_bestOf_418 fl_9_189 ob_9_22 fi_9_22 (by omega) ?_
                refine rr_aload0 (pc := 421) B dX9_bestOf_421 ?_
                refine rr_iload5 (pc := 422) B dX9_bestOf_422 ?_
                refine rr_if_eq 436 (pc := 424) B dX9_bestOf_424 (by decide) (by omega) (fun b11 => ?_) (fun b11 => absurd b11 (by omega))
                refine rr_aload0 (pc := 436) B dX9_bestOf_436 ?_
                refine rr_getI (pc := 437) B dX9_bestOf_437 fl_9_192 ob_9_23 (fun b12 => ?_)
                refine rr_putI (pc := 440) B dX9_bestOf_440 fl_9_192 ob_9_23 fi_9_23 (by omega) ?_
                refine rr_iinc3 (z := 1) (pc := 443) B dX9_bestOf_443 rfl ?_
                refine rr_goto 338 (pc := 446) B dX9_bestOf_446 (by decide) ?_
                refine ih.2.2.2.2.2.2.2.1 _ _ _ _ _ _ _ _ ?_ ?_ ?_ ?_ ?_ ?_
                · omega
                · exact frm_ms (frm_ms K1 (by simp [exB])) (by simp [exB])
                · exact K2
                · intro t h0 h1 h2
                  first
                    | (show wth V t < wth V s ∨ wth V t = wth V s ∧ M1 62 s ≤ M1 62 t
                       rcases Int.lt_or_eq_of_le (show t ≤ s by omega) with q | q
                       · have := K3 t h0 q h2; omega
                       · subst q; omega)
                    | (show wth V t < M1 9 22 ∨ wth V t = M1 9 22 ∧ M1 9 23 ≤ M1 62 t
                       rcases Int.lt_or_eq_of_le (show t ≤ s by omega) with q | q
                       · exact K3 t h0 q h2
                       · subst q
                         have h2 : M1 62 t ≤ V 60 2 := h2
                         omega)
                · first
                    | (right; exact ⟨s, by omega, by omega, by assumption, rfl, rfl⟩)
                    | (show M1 9 22 = -1 ∧ M1 9 23 = 0 ∧ (∀ t, 0 ≤ t → t < s + 1 → ¬ M1 62 t ≤ V 60 2) ∨ ∃ t, 0 ≤ t ∧ t < s + 1 ∧ M1 62 t ≤ V 60 2 ∧ wth V t = M1 9 22 ∧ M1 62 t = M1 9 23
                       rcases K4 with ⟨z1, z2, z3⟩ | ⟨t, z1, z2, z3⟩
                       · left
                         refine ⟨z1, z2, fun t h0 h1 => ?_⟩
                         rcases Int.lt_or_eq_of_le (show t ≤ s by omega) with q | q
                         · exact z3 t h0 q
                         · subst q; omega
                       · right; exact ⟨t, z1, by omega, z3⟩)
                · omega
              · refine rr_aload0 (pc := 383) B dX9_bestOf_383 ?_
                refine rr_getR (pc := 384) B dX9_bestOf_384 fl_9_61 or_9_19 ?_
                refine rr_iload3 (pc := 387) B dX9_bestOf_387 ?_
                refine rr_iaload (pc := 388) B dX9_bestOf_388 sa_62 (by omega) (fun b9 => ?_)
                refine rr_aload0 (pc := 389) B dX9_bestOf_389 ?_
                refine rr_getI (pc := 390) B dX9_bestOf_390 fl_9_192 ob_9_23 (fun b10 => ?_)
                refine rr_icmp_ge 400 (pc := 393) B dX9_bestOf_393 (by decide) (by omega) (fun b11 => ?_) (fun b11 => ?_)
                · refine rr_iconst (z := 0) (pc := 400) B dX9_bestOf_400 ?_
                  refine rr_istore5 (pc := 401) B dX9_bestOf_401 rfl ?_
                  refine rr_aload0 (pc := 403) B dX9_bestOf_403 ?_
                  refine rr_iload5 (pc := 404) B dX9_bestOf_404 ?_
                  refine rr_if_eq 414 (pc := 406) B dX9_bestOf_406 (by decide) (by omega) (fun b12 => ?_) (fun b12 => absurd b12 (by omega))
                  refine rr_aload0 (pc := 414) B dX9_bestOf_414 ?_
                  refine rr_getI (pc := 415) B dX9_bestOf_415 fl_9_189 ob_9_22 (fun b13 => ?_)
                  refine rr_putI (pc := 418) B dX9_bestOf_418 fl_9_189 ob_9_22 fi_9_22 (by omega) ?_
                  refine rr_aload0 (pc := 421) B dX9_bestOf_421 ?_
                  refine rr_iload5 (pc := 422) B dX9_bestOf_422 ?_
                  refine rr_if_eq 436 (pc := 424) B dX9_bestOf_424 (by decide) (by omega) (fun b14 => ?_) (fun b14 => absurd b14 (by omega))
                  refine rr_aload0 (pc := 436) B dX9_bestOf_436 ?_
                  refine rr_getI (pc := 437) B dX9_bestOf_437 fl_9_192 ob_9_23 (fun b15 => ?_)
                  refine rr_putI (pc := 440) B dX9_bestOf_440 fl_9_192 ob_9_23 fi_9_23 (by omega) ?_
                  refine rr_iinc3 (z := 1) (pc := 443) B dX9_bestOf_443 rfl ?_
                  refine rr_goto 338 (pc := 446) B dX9_bestOf_446 (by decide) ?_
                  refine ih.2.2.2.2.2.2.2.1 _ _ _ _ _ _ _ _ ?_ ?_ ?_ ?_ ?_ ?_
                  · omega
                  · exact frm_ms (frm_ms K1 (by simp [exB])) (by simp [exB])
                  · exact K2
                  · intro t h0 h1 h2
                    first
                      | (show wth V t < wth V s ∨ wth V t = wth V s ∧ M1 62 s ≤ M1 62 t
                         rcases Int.lt_or_eq_of_le (show t ≤ s by omega) with q | q
                         · have := K3 t h0 q h2; omega
                         · subst q; omega)
                      | (show wth V t < M1 9 22 ∨ wth V t = M1 9 22 ∧ M1 9 23 ≤ M1 62 t
                         rcases Int.lt_or_eq_of_le (show t ≤ s by omega) with q | q
                         · exact K3 t h0 q h2
                         · subst q
                           have h2 : M1 62 t ≤ V 60 2 := h2
                           omega)
                  · first
                      | (right; exact ⟨s, by omega, by omega, by assumption, rfl, rfl⟩)
                      | (show M1 9 22 = -1 ∧ M1 9 23 = 0 ∧ (∀ t, 0 ≤ t → t < s + 1 → ¬ M1 62 t ≤ V 60 2) ∨ ∃ t, 0 ≤ t ∧ t < s + 1 ∧ M1 62 t ≤ V 60 2 ∧ wth V t = M1 9 22 ∧ M1 62 t = M1 9 23
                         rcases K4 with ⟨z1, z2, z3⟩ | ⟨t, z1, z2, z3⟩
                         · left
                           refine ⟨z1, z2, fun t h0 h1 => ?_⟩
                           rcases Int.lt_or_eq_of_le (show t ≤ s by omega) with q | q
                           · exact z3 t h0 q
                           · subst q; omega
                         · right; exact ⟨t, z1, by omega, z3⟩)
                  · omega
                · refine rr_iconst (z := 1) (pc := 396) B dX9_bestOf_396 ?_
                  refine rr_goto 401 (pc := 397) B dX9_bestOf_397 (by decide) ?_
                  refine rr_istore5 (pc := 401) B dX9_bestOf_401 rfl ?_
                  refine rr_aload0 (pc := 403) B dX9_bestOf_403 ?_
                  refine rr_iload5 (pc := 404) B dX9_bestOf_404 ?_
                  refine rr_if_eq 414 (pc := 406) B dX9_bestOf_406 (by decide) (by omega) (fun b12 => absurd b12 (by omega)) (fun b12 => ?_)
                  refine rr_iload4 (pc := 409) B dX9_bestOf_409 ?_
                  refine rr_goto 418 (pc := 411) B dX9_bestOf_411 (by decide) ?_
                  refine rr_putI (pc := 418) B dX9_bestOf_418 fl_9_189 ob_9_22 fi_9_22 (by omega) ?_
                  refine rr_aload0 (pc := 421) B dX9_bestOf_421 ?_
                  refine rr_iload5 (pc := 422) B dX9_bestOf_422 ?_
                  refine rr_if_eq 436 (pc := 424) B dX9_bestOf_424 (by decide) (by omega) (fun b13 => absurd b13 (by omega)) (fun b13 => ?_)
                  refine rr_aload0 (pc := 427) B dX9_bestOf_427 ?_
                  refine rr_getR (pc := 428) B dX9_bestOf_428 fl_9_61 or_9_19 ?_
                  refine rr_iload3 (pc := 431) B dX9_bestOf_431 ?_
                  refine rr_iaload (pc := 432) B dX9_bestOf_432 sa_62 (by omega) (fun b14 => ?_)
                  refine rr_goto 440 (pc := 433) B dX9_bestOf_433 (by decide) ?_
                  refine rr_putI (pc := 440) B dX9_bestOf_440 fl_9_192 ob_9_23 fi_9_23 (by omega) ?_
                  refine rr_iinc3 (z := 1) (pc := 443) B dX9_bestOf_443 rfl ?_
                  refine rr_goto 338 (pc := 446) B dX9_bestOf_446 (by decide) ?_
                  refine ih.2.2.2.2.2.2.2.1 _ _ _ _ _ _ _ _ ?_ ?_ ?_ ?_ ?_ ?_
                  · omega
                  · exact frm_ms (frm_ms K1 (by simp [exB])) (by simp [exB])
                  · exact K2
                  · intro t h0 h1 h2
                    first
                      | (show wth V t < wth V s ∨ wth V t = wth V s ∧ M1 62 s ≤ M1 62 t
                         rcases Int.lt_or_eq_of_le (show t ≤ s by omega) with q | q
                         · have := K3 t h0 q h2; omega
                         · subst q; omega)
                      | (show wth V t < M1 9 22 ∨ wth V t = M1 9 22 ∧ M1 9 23 ≤ M1 62 t
                         rcases Int.lt_or_eq_of_le (show t ≤ s by omega) with q | q
                         · exact K3 t h0 q h2
                         · subst q
                           have h2 : M1 62 t ≤ V 60 2 := h2
                           omega)
                  · first
                      | (right; exact ⟨s, by omega, by omega, by assumption, rfl, rfl⟩)
                      | (show M1 9 22 = -1 ∧ M1 9 23 = 0 ∧ (∀ t, 0 ≤ t → t < s + 1 → ¬ M1 62 t ≤ V 60 2) ∨ ∃ t, 0 ≤ t ∧ t < s + 1 ∧ M1 62 t ≤ V 60 2 ∧ wth V t = M1 9 22 ∧ M1 62 t = M1 9 23
                         rcases K4 with ⟨z1, z2, z3⟩ | ⟨t, z1, z2, z3⟩
                         · left
                           refine ⟨z1, z2, fun t h0 h1 => ?_⟩
                           rcases Int.lt_or_eq_of_le (show t ≤ s by omega) with q | q
                           · exact z3 t h0 q
                           · subst q; omega
                         · right; exact ⟨t, z1, by omega, z3⟩)
                  · omega
  refine rr_iconst (z := 1) (pc := 0) B dX9_bestOf_0 ?_
  refine rr_aload0 (pc := 1) B dX9_bestOf_1 ?_
  refine rr_getIE (pc := 2) B dX9_bestOf_2 fl_9_107 ob_9_2 (HV 9 _ (Or.inl rfl)) (fun b1 => ?_)
  refine rr_shl1 (pc := 5) B dX9_bestOf_5 (by omega) (fun b2 => ?_)
  refine rr_iconst (z := 1) (pc := 6) B dX9_bestOf_6 ?_
  refine rr_isub (pc := 7) B dX9_bestOf_7 ?_
  refine rr_istore2 (pc := 8) B dX9_bestOf_8 rfl ?_
  refine rr_iconst (z := 0) (pc := 9) B dX9_bestOf_9 ?_
  refine rr_istore3 (pc := 10) B dX9_bestOf_10 rfl ?_
  refine (L _).1 _ _ ?_ ?_ ?_ (Nat.lt_succ_self _)
  · omega
  · exact frm_rfl
  · intro t h0 h1; omega
