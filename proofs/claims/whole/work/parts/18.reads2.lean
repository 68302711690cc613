set_option maxHeartbeats 4000000 in
set_option maxRecDepth 100000 in
theorem ct_X9_noRules (g : ax_G) (M : ax_M) : CT g md_X9_noRules 0 [aR 9] M (pVR (fun M2 => M2 9 8 = 0 ∧ (∀ k, 0 ≤ k → k < 4 → M2 52 k = 0 ∧ M2 53 k = 0 ∧ M2 54 k = 0) ∧ frm exR M M2)) := by
  refine ct_intro 1 rfl rfl ?_
  intro X hg B Br
  subst hg
  show AW X 0 [some (aR 9), none] [] M
  refine rr_rg (fun G0 => ?_)
  have L : ∀ nn : Nat, (∀ (M1 : ax_M) (k : Int), (0 ≤ k ∧ k ≤ 4) → (M1 9 8 = 0) → (∀ j, 0 ≤ j → j < k → M1 52 j = 0 ∧ M1 53 j = 0 ∧ M1 54 j = 0) → (frm exR M M1) → ((4 - k).toNat) < nn → AW X 7 [some (aR 9), some (aI k)] [] M1) ∧ True := by
    intro nn
    induction nn with
    | zero => exact ⟨by intros; omega, trivial⟩
    | succ nn ih =>
      refine ⟨?_, trivial⟩
      · intro M1 k K0 K1 K2 K3 hm
        refine rr_rg (fun G1 => ?_)
        refine rr_iload1 (pc := 7) B dX9_noRules_7 ?_
        refine rr_iconst (z := 4) (pc := 8) B dX9_noRules_8 ?_
        refine rr_icmp_ge 39 (pc := 9) B dX9_noRules_9 (by decide) (by omega) (fun b1 => ?_) (fun b1 => ?_)
        · refine rr_return (pc := 39) B Br dX9_noRules_39 ⟨rfl, ?_⟩
          · exact ⟨K1, fun j h0 h1 => K2 j h0 (by omega), K3⟩
        · refine rr_aload0 (pc := 12) B dX9_noRules_12 ?_
          refine rr_getR (pc := 13) B dX9_noRules_13 fl_9_31 or_9_9 ?_
          refine rr_iload1 (pc := 16) B dX9_noRules_16 ?_
          refine rr_iconst (z := 0) (pc := 17) B dX9_noRules_17 ?_
          refine rr_iastore (pc := 18) B dX9_noRules_18 sa_52 (by omega) (by omega) ?_
          refine rr_aload0 (pc := 19) B dX9_noRules_19 ?_
          refine rr_getR (pc := 20) B dX9_noRules_20 fl_9_34 or_9_10 ?_
          refine rr_iload1 (pc := 23) B dX9_noRules_23 ?_
          refine rr_iconst (z := 0) (pc := 24) B dX9_noRules_24 ?_
          refine rr_iastore (pc := 25) B dX9_noRules_25 sa_53 (by omega) (by omega) ?_
          refine rr_aload0 (pc := 26) B dX9_noRules_26 ?_
          refine rr_getR (pc := 27) B dX9_noRules_27 fl_9_37 or_9_11 ?_
          refine rr_iload1 (pc := 30) B dX9_noRules_30 ?_
          refine rr_iconst (z := 0) (pc := 31) B dX9_noRules_31 ?_
          refine rr_iastore (pc := 32) B dX9_noRules_32 sa_54 (by omega) (by omega) ?_
          refine rr_iinc1 (z := 1) (pc := 33) B dX9_noRules_33 rfl ?_
          refine rr_goto 7 (pc := 36) B dX9_noRules_36 (by decide) ?_
          refine ih.1 _ _ ?_ ?_ ?_ ?_ ?_
          · omega
          · exact K1
          · intro j h0 h1
            by_cases q : j = k
            · simp [ms, q]
            · have := K2 j h0 (by omega); simp [ms, q, this]
          · exact frm_ms (frm_ms (frm_ms K3 (by simp [exR])) (by simp [exR])) (by simp [exR])
          · omega
  refine rr_aload0 (pc := 0) B dX9_noRules_0 ?_
  refine rr_iconst (z := 0) (pc := 1) B dX9_noRules_1 ?_
  refine rr_putI (pc := 2) B dX9_noRules_2 fl_9_123 ob_9_8 fi_9_8 (by omega) ?_
  refine rr_iconst (z := 0) (pc := 5) B dX9_noRules_5 ?_
  refine rr_istore1 (pc := 6) B dX9_noRules_6 rfl ?_
  refine (L _).1 _ _ ?_ ?_ ?_ ?_ (Nat.lt_succ_self _)
  · omega
  · rfl
  · intro j h0 h1; omega
  · exact frm_ms frm_rfl rfl
set_option maxHeartbeats 16000000 in
set_option maxRecDepth 100000 in
theorem ct_X9_readsRules (g : ax_G) (M : ax_M) (n : Int) (T : Int → Int) (H0 : M 45 1 = n) (H1 : ∀ i, 0 ≤ i → i < n → M 46 (80 * 1 + i) = T i) : CT g md_X9_readsRules 1 [aR 9] M (pIR (rq T n 5 2) (fun M2 => (rq T n 5 2 = -1 → M2 9 8 = rq T n 5 1 ∧ ∀ k, 0 ≤ k → k < 4 → M2 52 k = rq T n 30 k ∧ M2 53 k = rq T n 31 k ∧ M2 54 k = rq T n 32 k) ∧ frm exR M M2)) := by
  refine ct_intro 2 rfl rfl ?_
  intro X hg B Br
  subst hg
  show AW X 0 [some (aR 9), none, none] [] M
  refine rr_rg (fun G0 => ?_)
  have N80 : 0 ≤ n ∧ n ≤ 80 := by have := G0.at (sa_45.2.2 1); rw [H0] at this; omega
  have TB : ∀ k, 0 ≤ k → -1 ≤ btT T n k ∧ btT T n k ≤ 255 := by
    intro k hk
    by_cases q : k < n
    · rw [bt_at q, ← H1 k hk q]
      have := G0.at (sa_46.2.2 (80 * 1 + k))
      omega
    · rw [bt_end (by omega)]
      omega
  have L : ∀ nn : Nat, (∀ (M1 : ax_M) (a : Int) (w2 : Option ax_V), (0 ≤ a ∧ a ≤ n) → (rq T a 5 9 = -1) → (rq T a 5 8 = 0) → (M1 9 8 = rq T a 5 6) → (2 * M1 9 8 ≤ a) → (∀ k, 0 ≤ k → k < 4 → M1 52 k = rq T a 30 k ∧ M1 53 k = rq T a 31 k ∧ M1 54 k = rq T a 32 k) → (frm exR M M1) → ((4 * (100 - a) + 3).toNat) < nn → AW X 6 [some (aR 9), some (aI a), w2] [] M1) ∧ (∀ (M1 : ax_M) (a kd : Int), (2 ≤ a ∧ a ≤ n) → (0 ≤ kd ∧ kd ≤ 3) → (rq T a 5 9 = -1) → (2 ≤ rq T a 5 8 ∧ rq T a 5 8 ≤ 3) → (rq T a 5 7 = kd) → (M1 9 8 + 1 = rq T a 5 6) → (2 * M1 9 8 + 2 ≤ a) → (∀ k, 0 ≤ k → k < 4 → M1 52 k = rq T a 30 k ∧ M1 53 k = rq T a 31 k ∧ (k ≠ kd → M1 54 k = rq T a 32 k)) → (rq T a 32 kd = 0) → (rq T a 5 8 = 2 → btT T n a ≠ 119) → (frm exR M M1) → ((4 * (100 - a) + 2).toNat) < nn → AW X 110 [some (aR 9), some (aI a), some (aI kd)] [] M1) ∧ (∀ (M1 : ax_M) (a kd : Int), (2 ≤ a ∧ a ≤ n) → (0 ≤ kd ∧ kd ≤ 3) → (rq T a 5 9 = -1) → (2 ≤ rq T a 5 8 ∧ rq T a 5 8 ≤ 4) → (M1 9 8 + 1 = rq T a 5 6) → (2 * M1 9 8 + 2 ≤ a) → (∀ k, 0 ≤ k → k < 4 → M1 52 k = rq T a 30 k ∧ M1 53 k = rq T a 31 k ∧ M1 54 k = rq T a 32 k) → (rq T a 5 8 < 3 → btT T n a ≠ 119) → (rq T a 5 8 < 4 → btT T n a ≠ 104) → (frm exR M M1) → ((4 * (100 - a) + 1).toNat) < nn → AW X 141 [some (aR 9), some (aI a), some (aI kd)] [] M1) ∧ True := by
    intro nn
    induction nn with
    | zero => exact ⟨by intros; omega, by intros; omega, by intros; omega, trivial⟩
    | succ nn ih =>
      refine ⟨?_, ?_, ?_, trivial⟩
      · intro M1 a w2 K0 K1 K2 K3 K4 K5 K6 hm
        refine rr_rg (fun G1 => ?_)
        have E45 : M1 45 1 = n := (K6 45 1 rfl).trans H0
        have E46 : ∀ i, 0 ≤ i → i < n → M1 46 (80 * 1 + i) = T i := fun i h0 h1 => (K6 46 _ rfl).trans (H1 i h0 h1)
        refine rr_iload1 (pc := 6) B dX9_readsRules_6 ?_
        refine rr_aload0 (pc := 7) B dX9_readsRules_7 ?_
        refine rr_getR (pc := 8) B dX9_readsRules_8 fl_9_7 or_9_0 ?_
        refine rr_iconst (z := 1) (pc := 11) B dX9_readsRules_11 ?_
        refine rr_ialoadE (pc := 12) B dX9_readsRules_12 sa_45 (by omega) (E45) (fun b1 => ?_)
        refine rr_icmp_lt 20 (pc := 13) B dX9_readsRules_13 (by decide) (by omega) (fun b2 => ?_) (fun b2 => ?_)
        · refine rr_aload0 (pc := 20) B dX9_readsRules_20 ?_
          refine rr_iconst (z := 1) (pc := 21) B dX9_readsRules_21 ?_
          refine rr_iload1 (pc := 22) B dX9_readsRules_22 ?_
          refine rc_VI2 (pc := 23) B dX9_readsRules_23 vm_X9_byteAt lk_9_111 so_9 rfl (ct_X9_byteAt _ _ _ _ _ _ (by omega) (by omega) (by exact E45) (by exact E46)) (Nat.le_of_ble_eq_true rfl) (Nat.le_of_ble_eq_true rfl) ?_
          refine rc_SI1 (pc := 26) B dX9_readsRules_26 st_X9_kindBy lk_9_115 (ct_X9_kindBy _ _ _  (by have := TB a (by omega); omega)) (Nat.le_of_ble_eq_true rfl) (Nat.le_of_ble_eq_true rfl) ?_
          refine rr_istore2 (pc := 29) B dX9_readsRules_29 rfl ?_
          refine rr_iload2 (pc := 30) B dX9_readsRules_30 ?_
          refine rr_iconst (z := (-1)) (pc := 31) B dX9_readsRules_31 ?_
          refine rr_icmp_ne 37 (pc := 32) B dX9_readsRules_32 (by decide) (by have := kV_r (btT T n a); omega) (fun b3 => ?_) (fun b3 => ?_)
          · have A0 := bt_in (T := T) (n := n) (k := a) (fun e => ‹kV (btT T n a) ≠ -1› (by rw [e]; rfl))
            have Q0 := rq_head T K0.1 K1 K2 (by rw [← A0.2]; assumption)
            refine rr_aload0 (pc := 37) B dX9_readsRules_37 ?_
            refine rr_iconst (z := 1) (pc := 38) B dX9_readsRules_38 ?_
            refine rr_iload1 (pc := 39) B dX9_readsRules_39 ?_
            refine rr_iconst (z := 1) (pc := 40) B dX9_readsRules_40 ?_
            refine rr_iadd (pc := 41) B dX9_readsRules_41 ?_
            refine rc_VI2 (pc := 42) B dX9_readsRules_42 vm_X9_byteAt lk_9_111 so_9 rfl (ct_X9_byteAt _ _ _ _ _ _ (by omega) (by omega) (by exact E45) (by exact E46)) (Nat.le_of_ble_eq_true rfl) (Nat.le_of_ble_eq_true rfl) ?_
            refine rr_bipush (z := 48) (pc := 45) B dX9_readsRules_45 (by decide) ?_
            refine rr_bipush (z := 52) (pc := 47) B dX9_readsRules_47 (by decide) ?_
            refine rc_SI3 (pc := 49) B dX9_readsRules_49 st_X9_in lk_9_103 (ct_X9_in _ _ _ _ _  (by have := TB (a + 1) (by omega); omega)) (Nat.le_of_ble_eq_true rfl) (Nat.le_of_ble_eq_true rfl) ?_
            refine rr_if_neB 59 (pc := 52) B dX9_readsRules_52 (by decide) (fun b4 => ?_) (fun b4 => ?_)
            · replace b4 := of_decide_eq_true b4
              have A1 := bt_in (T := T) (n := n) (k := a + 1) (by omega)
              have A1v : fgV (T (a + 1)) 0 4 = T (a + 1) - 48 := by unfold fgV; rw [if_pos]; rw [← A1.2]; omega
              have Q1 := Q0.2 (by rw [A1v, ← A1.2]; omega)
              refine rr_aload0 (pc := 59) B dX9_readsRules_59 ?_
              refine rr_getR (pc := 60) B dX9_readsRules_60 fl_9_31 or_9_9 ?_
              refine rr_iload2 (pc := 63) B dX9_readsRules_63 ?_
              refine rr_aload0 (pc := 64) B dX9_readsRules_64 ?_
              refine rr_iconst (z := 1) (pc := 65) B dX9_readsRules_65 ?_
              refine rr_iload1 (pc := 66) B dX9_readsRules_66 ?_
              refine rr_iconst (z := 1) (pc := 67) B dX9_readsRules_67 ?_
              refine rr_iadd (pc := 68) B dX9_readsRules_68 ?_
              refine rc_VI2 (pc := 69) B dX9_readsRules_69 vm_X9_byteAt lk_9_111 so_9 rfl (ct_X9_byteAt _ _ _ _ _ _ (by omega) (by omega) (by exact E45) (by exact E46)) (Nat.le_of_ble_eq_true rfl) (Nat.le_of_ble_eq_true rfl) ?_
              refine rr_bipush (z := 48) (pc := 72) B dX9_readsRules_72 (by decide) ?_
              refine rr_isub (pc := 74) B dX9_readsRules_74 ?_
              refine rr_iastore (pc := 75) B dX9_readsRules_75 sa_52 (by have := kV_r (btT T n a); omega) (by omega) ?_
              refine rr_iinc1 (z := 2) (pc := 76) B dX9_readsRules_76 rfl ?_
              refine rr_aload0 (pc := 79) B dX9_readsRules_79 ?_
              refine rr_getR (pc := 80) B dX9_readsRules_80 fl_9_34 or_9_10 ?_
              refine rr_iload2 (pc := 83) B dX9_readsRules_83 ?_
              refine rr_aload0 (pc := 84) B dX9_readsRules_84 ?_
              refine rr_iconst (z := 1) (pc := 85) B dX9_readsRules_85 ?_
              refine rr_iload1 (pc := 86) B dX9_readsRules_86 ?_
              refine rc_VI2 (pc := 87) B dX9_readsRules_87 vm_X9_byteAt lk_9_111 so_9 rfl (ct_X9_byteAt _ _ _ _ _ _ (by omega) (by omega) (by exact E45) (by exact E46)) (Nat.le_of_ble_eq_true rfl) (Nat.le_of_ble_eq_true rfl) ?_
              refine rr_bipush (z := 119) (pc := 90) B dX9_readsRules_90 (by decide) ?_
              refine rr_icmp_ne 99 (pc := 92) B dX9_readsRules_92 (by decide) (by have := TB (a + 2) (by omega); omega) (fun b5 => ?_) (fun b5 => ?_)
              · refine rr_iconst (z := 0) (pc := 99) B dX9_readsRules_99 ?_
                refine rr_iastore (pc := 100) B dX9_readsRules_100 sa_53 (by have := kV_r (btT T n a); omega) (by omega) ?_
                refine rr_iload1 (pc := 101) B dX9_readsRules_101 ?_
                refine rr_aload0 (pc := 102) B dX9_readsRules_102 ?_
                refine rr_getR (pc := 103) B dX9_readsRules_103 fl_9_34 or_9_10 ?_
                refine rr_iload2 (pc := 106) B dX9_readsRules_106 ?_
                refine rr_ialoadE (pc := 107) B dX9_readsRules_107 sa_53 (by have := kV_r (btT T n a); omega) (ms_at _ _ _ _) (fun b6 => ?_)
                refine rr_iadd (pc := 108) B dX9_readsRules_108 ?_
                refine rr_istore1 (pc := 109) B dX9_readsRules_109 rfl ?_
                refine ih.2.1 _ _ _ ?_ ?_ ?_ ?_ ?_ ?_ ?_ ?_ ?_ ?_ ?_ ?_
                · omega
                · have := kV_r (btT T n a); omega
                · first
                    | exact Qw.1
                    | rw [Int.add_zero]; exact Q1.1
                · first
                    | rw [Qw.2.1]; omega
                    | rw [Int.add_zero, Q1.2.1]; omega
                · first
                    | rw [Qw.2.2.1, Q1.2.2.1, A0.2]
                    | rw [Int.add_zero, Q1.2.2.1, A0.2]
                · first
                    | rw [Qw.2.2.2.1, Q1.2.2.2.1, ← K3]; rfl
                    | rw [Int.add_zero, Q1.2.2.2.1, ← K3]; rfl
                · show 2 * M1 9 8 + 2 ≤ _; omega
                · first
                    | intro k h0 h1
                      have k5 := K5 k h0 h1
                      simp only [A0.2]
                      by_cases q : k = kV (T a)
                      · simp [ms, q, Qw.2.2.2.2.1, Qw.2.2.2.2.2.1, Qw.2.2.2.2.2.2, Q1.2.2.1, Q1.2.2.2.2.1, Q1.2.2.2.2.2.1, Q1.2.2.2.2.2.2, A1v, A1.2]
                      · simp [ms, q, Qw.2.2.2.2.1, Qw.2.2.2.2.2.1, Qw.2.2.2.2.2.2, Q1.2.2.1, Q1.2.2.2.2.1, Q1.2.2.2.2.2.1, Q1.2.2.2.2.2.2, k5]
                    | intro k h0 h1
                      have k5 := K5 k h0 h1
                      simp only [A0.2, Int.add_zero]
                      by_cases q : k = kV (T a)
                      · simp [ms, q, Q1.2.2.1, Q1.2.2.2.2.1, Q1.2.2.2.2.2.1, Q1.2.2.2.2.2.2, A1v, A1.2]
                      · simp [ms, q, Q1.2.2.1, Q1.2.2.2.2.1, Q1.2.2.2.2.2.1, Q1.2.2.2.2.2.2, k5]
                · first
                    | rw [Qw.2.2.2.2.2.2, Q1.2.2.2.2.2.2, A0.2, if_pos rfl]
                    | rw [Int.add_zero, Q1.2.2.2.2.2.2, A0.2, if_pos rfl]
                · first
                    | rw [Qw.2.1]; omega
                    | rw [Int.add_zero]; intro _; assumption
                · exact frm_ms (frm_ms K6 (by simp [exR])) (by simp [exR])
                · omega
              · have A2 := bt_in (T := T) (n := n) (k := a + 2) (by omega)
                have Qw := (rq_mark T (a := a + 2) (by omega) Q1.1 (by rw [Q1.2.1]; omega)).2.1 (by rw [← A2.2]; assumption) (by rw [Q1.2.1]; omega)
                refine rr_iconst (z := 1) (pc := 95) B dX9_readsRules_95 ?_
                refine rr_goto 100 (pc := 96) B dX9_readsRules_96 (by decide) ?_
                refine rr_iastore (pc := 100) B dX9_readsRules_100 sa_53 (by have := kV_r (btT T n a); omega) (by omega) ?_
                refine rr_iload1 (pc := 101) B dX9_readsRules_101 ?_
                refine rr_aload0 (pc := 102) B dX9_readsRules_102 ?_
                refine rr_getR (pc := 103) B dX9_readsRules_103 fl_9_34 or_9_10 ?_
                refine rr_iload2 (pc := 106) B dX9_readsRules_106 ?_
                refine rr_ialoadE (pc := 107) B dX9_readsRules_107 sa_53 (by have := kV_r (btT T n a); omega) (ms_at _ _ _ _) (fun b6 => ?_)
                refine rr_iadd (pc := 108) B dX9_readsRules_108 ?_
                refine rr_istore1 (pc := 109) B dX9_readsRules_109 rfl ?_
                refine ih.2.1 _ _ _ ?_ ?_ ?_ ?_ ?_ ?_ ?_ ?_ ?_ ?_ ?_ ?_
                · omega
                · have := kV_r (btT T n a); omega
                · first
                    | exact Qw.1
                    | rw [Int.add_zero]; exact Q1.1
                · first
                    | rw [Qw.2.1]; omega
                    | rw [Int.add_zero, Q1.2.1]; omega
                · first
                    | rw [Qw.2.2.1, Q1.2.2.1, A0.2]
                    | rw [Int.add_zero, Q1.2.2.1, A0.2]
                · first
                    | rw [Qw.2.2.2.1, Q1.2.2.2.1, ← K3]; rfl
                    | rw [Int.add_zero, Q1.2.2.2.1, ← K3]; rfl
                · show 2 * M1 9 8 + 2 ≤ _; omega
                · first
                    | intro k h0 h1
                      have k5 := K5 k h0 h1
                      simp only [A0.2]
                      by_cases q : k = kV (T a)
                      · simp [ms, q, Qw.2.2.2.2.1, Qw.2.2.2.2.2.1, Qw.2.2.2.2.2.2, Q1.2.2.1, Q1.2.2.2.2.1, Q1.2.2.2.2.2.1, Q1.2.2.2.2.2.2, A1v, A1.2]
                      · simp [ms, q, Qw.2.2.2.2.1, Qw.2.2.2.2.2.1, Qw.2.2.2.2.2.2, Q1.2.2.1, Q1.2.2.2.2.1, Q1.2.2.2.2.2.1, Q1.2.2.2.2.2.2, k5]
                    | intro k h0 h1
                      have k5 := K5 k h0 h1
                      simp only [A0.2, Int.add_zero]
                      by_cases q : k = kV (T a)
                      · simp [ms, q, Q1.2.2.1, Q1.2.2.2.2.1, Q1.2.2.2.2.2.1, Q1.2.2.2.2.2.2, A1v, A1.2]
                      · simp [ms, q, Q1.2.2.1, Q1.2.2.2.2.1, Q1.2.2.2.2.2.1, Q1.2.2.2.2.2.2, k5]
                · first
                    | rw [Qw.2.2.2.2.2.2, Q1.2.2.2.2.2.2, A0.2, if_pos rfl]
                    | rw [Int.add_zero, Q1.2.2.2.2.2.2, A0.2, if_pos rfl]
                · first
                    | rw [Qw.2.1]; omega
                    | rw [Int.add_zero]; intro _; assumption
                · exact frm_ms (frm_ms K6 (by simp [exR])) (by simp [exR])
                · omega
            · replace b4 := of_decide_eq_false b4
              have W := rq_f T (f := a + 1) (n := n) (by omega) (by omega) (by omega) Q0.1.1 (fun q => by rw [Q0.1.2.2]; refine decide_eq_false (fun z => z ?_); unfold fgV; rw [if_neg]; rw [← bt_at (T := T) q]; omega) (fun _ => by rw [Q0.1.2.1]; omega)
              refine rr_iload1 (pc := 55) B dX9_readsRules_55 ?_
              refine rr_iconst (z := 1) (pc := 56) B dX9_readsRules_56 ?_
              refine rr_iadd (pc := 57) B dX9_readsRules_57 ?_
              refine rr_ireturn (pc := 58) B Br dX9_readsRules_58 ⟨congrArg (fun z => some (aI z)) ?_, ?_⟩
              · exact W.1.symm
              · exact ⟨fun e => absurd (W.1.symm.trans e) (by omega), K6⟩
          · have W := rq_f T (f := a) (n := n) K0.1 K0.2 (by omega) K1 (fun q => by rw [rg_0 K2, ← bt_at (T := T) q]; exact decide_eq_false (by omega)) (fun _ => by rw [K2]; omega)
            refine rr_iload1 (pc := 35) B dX9_readsRules_35 ?_
            refine rr_ireturn (pc := 36) B Br dX9_readsRules_36 ⟨congrArg (fun z => some (aI z)) ?_, ?_⟩
            · exact W.1.symm
            · exact ⟨fun e => absurd (W.1.symm.trans e) (by omega), K6⟩
        · refine rr_iload1 (pc := 16) B dX9_readsRules_16 ?_
          refine rr_if_le 182 (pc := 17) B dX9_readsRules_17 (by decide) (by omega) (fun b3 => ?_) (fun b3 => ?_)
          · refine rr_iconst (z := (-1)) (pc := 182) B dX9_readsRules_182 ?_
            refine rr_ireturn (pc := 183) B Br dX9_readsRules_183 ⟨congrArg (fun z => some (aI z)) ?_, ?_⟩
            · rw [show n = 0 by omega]; rfl
            · refine ⟨fun _ => ⟨?_, fun k h0 h1 => ?_⟩, K6⟩
              · rw [K3, show a = 0 by omega, show n = 0 by omega]; rfl
              · have := K5 k h0 h1
                rw [show a = 0 by omega] at this
                rw [show n = 0 by omega]
                exact this
          · refine rr_aload0 (pc := 20) B dX9_readsRules_20 ?_
            refine rr_iconst (z := 1) (pc := 21) B dX9_readsRules_21 ?_
            refine rr_iload1 (pc := 22) B dX9_readsRules_22 ?_
            refine rc_VI2 (pc := 23) B dX9_readsRules_23 vm_X9_byteAt lk_9_111 so_9 rfl (ct_X9_byteAt _ _ _ _ _ _ (by omega) (by omega) (by exact E45) (by exact E46)) (Nat.le_of_ble_eq_true rfl) (Nat.le_of_ble_eq_true rfl) ?_
            refine rc_SI1 (pc := 26) B dX9_readsRules_26 st_X9_kindBy lk_9_115 (ct_X9_kindBy _ _ _  (by have := TB a (by omega); omega)) (Nat.le_of_ble_eq_true rfl) (Nat.le_of_ble_eq_true rfl) ?_
            refine rr_istore2 (pc := 29) B dX9_readsRules_29 rfl ?_
            refine rr_iload2 (pc := 30) B dX9_readsRules_30 ?_
            refine rr_iconst (z := (-1)) (pc := 31) B dX9_readsRules_31 ?_
            refine rr_icmp_ne 37 (pc := 32) B dX9_readsRules_32 (by decide) (by have := kV_r (btT T n a); omega) (fun b4 => ?_) (fun b4 => ?_)
            · have A0 := bt_in (T := T) (n := n) (k := a) (fun e => ‹kV (btT T n a) ≠ -1› (by rw [e]; rfl))
              have Q0 := rq_head T K0.1 K1 K2 (by rw [← A0.2]; assumption)
              refine rr_aload0 (pc := 37) B dX9_readsRules_37 ?_
              refine rr_iconst (z := 1) (pc := 38) B dX9_readsRules_38 ?_
              refine rr_iload1 (pc := 39) B dX9_readsRules_39 ?_
              refine rr_iconst (z := 1) (pc := 40) B dX9_readsRules_40 ?_
              refine rr_iadd (pc := 41) B dX9_readsRules_41 ?_
              refine rc_VI2 (pc := 42) B dX9_readsRules_42 vm_X9_byteAt lk_9_111 so_9 rfl (ct_X9_byteAt _ _ _ _ _ _ (by omega) (by omega) (by exact E45) (by exact E46)) (Nat.le_of_ble_eq_true rfl) (Nat.le_of_ble_eq_true rfl) ?_
              refine rr_bipush (z := 48) (pc := 45) B dX9_readsRules_45 (by decide) ?_
              refine rr_bipush (z := 52) (pc := 47) B dX9_readsRules_47 (by decide) ?_
              refine rc_SI3 (pc := 49) B dX9_readsRules_49 st_X9_in lk_9_103 (ct_X9_in _ _ _ _ _  (by have := TB (a + 1) (by omega); omega)) (Nat.le_of_ble_eq_true rfl) (Nat.le_of_ble_eq_true rfl) ?_
              refine rr_if_neB 59 (pc := 52) B dX9_readsRules_52 (by decide) (fun b5 => ?_) (fun b5 => ?_)
              · replace b5 := of_decide_eq_true b5
                have A1 := bt_in (T := T) (n := n) (k := a + 1) (by omega)
                have A1v : fgV (T (a + 1)) 0 4 = T (a + 1) - 48 := by unfold fgV; rw [if_pos]; rw [← A1.2]; omega
                have Q1 := Q0.2 (by rw [A1v, ← A1.2]; omega)
                refine rr_aload0 (pc := 59) B dX9_readsRules_59 ?_
                refine rr_getR (pc := 60) B dX9_readsRules_60 fl_9_31 or_9_9 ?_
                refine rr_iload2 (pc := 63) B dX9_readsRules_63 ?_
                refine rr_aload0 (pc := 64) B dX9_readsRules_64 ?_
                refine rr_iconst (z := 1) (pc := 65) B dX9_readsRules_65 ?_
                refine rr_iload1 (pc := 66) B dX9_readsRules_66 ?_
                refine rr_iconst (z := 1) (pc := 67) B dX9_readsRules_67 ?_
                refine rr_iadd (pc := 68) B dX9_readsRules_68 ?_
                refine rc_VI2 (pc := 69) B dX9_readsRules_69 vm_X9_byteAt lk_9_111 so_9 rfl (ct_X9_byteAt _ _ _ _ _ _ (by omega) (by omega) (by exact E45) (by exact E46)) (Nat.le_of_ble_eq_true rfl) (Nat.le_of_ble_eq_true rfl) ?_
                refine rr_bipush (z := 48) (pc := 72) B dX9_readsRules_72 (by decide) ?_
                refine rr_isub (pc := 74) B dX9_readsRules_74 ?_
                refine rr_iastore (pc := 75) B dX9_readsRules_75 sa_52 (by have := kV_r (btT T n a); omega) (by omega) ?_
                refine rr_iinc1 (z := 2) (pc := 76) B dX9_readsRules_76 rfl ?_
                refine rr_aload0 (pc := 79) B dX9_readsRules_79 ?_
                refine rr_getR (pc := 80) B dX9_readsRules_80 fl_9_34 or_9_10 ?_
                refine rr_iload2 (pc := 83) B dX9_readsRules_83 ?_
                refine rr_aload0 (pc := 84) B dX9_readsRules_84 ?_
                refine rr_iconst (z := 1) (pc := 85) B dX9_readsRules_85 ?_
                refine rr_iload1 (pc := 86) B dX9_readsRules_86 ?_
                refine rc_VI2 (pc := 87) B dX9_readsRules_87 vm_X9_byteAt lk_9_111 so_9 rfl (ct_X9_byteAt _ _ _ _ _ _ (by omega) (by omega) (by exact E45) (by exact E46)) (Nat.le_of_ble_eq_true rfl) (Nat.le_of_ble_eq_true rfl) ?_
                refine rr_bipush (z := 119) (pc := 90) B dX9_readsRules_90 (by decide) ?_
                refine rr_icmp_ne 99 (pc := 92) B dX9_readsRules_92 (by decide) (by have := TB (a + 2) (by omega); omega) (fun b6 => ?_) (fun b6 => ?_)
                · refine rr_iconst (z := 0) (pc := 99) B dX9_readsRules_99 ?_
                  refine rr_iastore (pc := 100) B dX9_readsRules_100 sa_53 (by have := kV_r (btT T n a); omega) (by omega) ?_
                  refine rr_iload1 (pc := 101) B dX9_readsRules_101 ?_
                  refine rr_aload0 (pc := 102) B dX9_readsRules_102 ?_
                  refine rr_getR (pc := 103) B dX9_readsRules_103 fl_9_34 or_9_10 ?_
                  refine rr_iload2 (pc := 106) B dX9_readsRules_106 ?_
                  refine rr_ialoadE (pc := 107) B dX9_readsRules_107 sa_53 (by have := kV_r (btT T n a); omega) (ms_at _ _ _ _) (fun b7 => ?_)
                  refine rr_iadd (pc := 108) B dX9_readsRules_108 ?_
                  refine rr_istore1 (pc := 109) B dX9_readsRules_109 rfl ?_
                  refine ih.2.1 _ _ _ ?_ ?_ ?_ ?_ ?_ ?_ ?_ ?_ ?_ ?_ ?_ ?_
                  · omega
                  · have := kV_r (btT T n a); omega
                  · first
                      | exact Qw.1
                      | rw [Int.add_zero]; exact Q1.1
                  · first
                      | rw [Qw.2.1]; omega
                      | rw [Int.add_zero, Q1.2.1]; omega
                  · first
                      | rw [Qw.2.2.1, Q1.2.2.1, A0.2]
                      | rw [Int.add_zero, Q1.2.2.1, A0.2]
                  · first
                      | rw [Qw.2.2.2.1, Q1.2.2.2.1, ← K3]; rfl
                      | rw [Int.add_zero, Q1.2.2.2.1, ← K3]; rfl
                  · show 2 * M1 9 8 + 2 ≤ _; omega
                  · first
                      | intro k h0 h1
                        have k5 := K5 k h0 h1
                        simp only [A0.2]
                        by_cases q : k = kV (T a)
                        · simp [ms, q, Qw.2.2.2.2.1, Qw.2.2.2.2.2.1, Qw.2.2.2.2.2.2, Q1.2.2.1, Q1.2.2.2.2.1, Q1.2.2.2.2.2.1, Q1.2.2.2.2.2.2, A1v, A1.2]
                        · simp [ms, q, Qw.2.2.2.2.1, Qw.2.2.2.2.2.1, Qw.2.2.2.2.2.2, Q1.2.2.1, Q1.2.2.2.2.1, Q1.2.2.2.2.2.1, Q1.2.2.2.2.2.2, k5]
                      | intro k h0 h1
                        have k5 := K5 k h0 h1
                        simp only [A0.2, Int.add_zero]
                        by_cases q : k = kV (T a)
                        · simp [ms, q, Q1.2.2.1, Q1.2.2.2.2.1, Q1.2.2.2.2.2.1, Q1.2.2.2.2.2.2, A1v, A1.2]
                        · simp [ms, q, Q1.2.2.1, Q1.2.2.2.2.1, Q1.2.2.2.2.2.1, Q1.2.2.2.2.2.2, k5]
                  · first
                      | rw [Qw.2.2.2.2.2.2, Q1.2.2.2.2.2.2, A0.2, if_pos rfl]
                      | rw [Int.add_zero, Q1.2.2.2.2.2.2, A0.2, if_pos rfl]
                  · first
                      | rw [Qw.2.1]; omega
                      | rw [Int.add_zero]; intro _; assumption
                  · exact frm_ms (frm_ms K6 (by simp [exR])) (by simp [exR])
                  · omega
                · have A2 := bt_in (T := T) (n := n) (k := a + 2) (by omega)
                  have Qw := (rq_mark T (a := a + 2) (by omega) Q1.1 (by rw [Q1.2.1]; omega)).2.1 (by rw [← A2.2]; assumption) (by rw [Q1.2.1]; omega)
                  refine rr_iconst (z := 1) (pc := 95) B dX9_readsRules_95 ?_
                  refine rr_goto 100 (pc := 96) B dX9_readsRules_96 (by decide) ?_
                  refine rr_iastore (pc := 100) B dX9_readsRules_100 sa_53 (by have := kV_r (btT T n a); omega) (by omega) ?_
                  refine rr_iload1 (pc := 101) B dX9_readsRules_101 ?_
                  refine rr_aload0 (pc := 102) B dX9_readsRules_102 ?_
                  refine rr_getR (pc := 103) B dX9_readsRules_103 fl_9_34 or_9_10 ?_
                  refine rr_iload2 (pc := 106) B dX9_readsRules_106 ?_
                  refine rr_ialoadE (pc := 107) B dX9_readsRules_107 sa_53 (by have := kV_r (btT T n a); omega) (ms_at _ _ _ _) (fun b7 => ?_)
                  refine rr_iadd (pc := 108) B dX9_readsRules_108 ?_
                  refine rr_istore1 (pc := 109) B dX9_readsRules_109 rfl ?_
                  refine ih.2.1 _ _ _ ?_ ?_ ?_ ?_ ?_ ?_ ?_ ?_ ?_ ?_ ?_ ?_
                  · omega
                  · have := kV_r (btT T n a); omega
                  · first
                      | exact Qw.1
                      | rw [Int.add_zero]; exact Q1.1
                  · first
                      | rw [Qw.2.1]; omega
                      | rw [Int.add_zero, Q1.2.1]; omega
                  · first
                      | rw [Qw.2.2.1, Q1.2.2.1, A0.2]
                      | rw [Int.add_zero, Q1.2.2.1, A0.2]
                  · first
                      | rw [Qw.2.2.2.1, Q1.2.2.2.1, ← K3]; rfl
                      | rw [Int.add_zero, Q1.2.2.2.1, ← K3]; rfl
                  · show 2 * M1 9 8 + 2 ≤ _; omega
                  · first
                      | intro k h0 h1
                        have k5 := K5 k h0 h1
                        simp only [A0.2]
                        by_cases q : k = kV (T a)
                        · simp [ms, q, Qw.2.2.2.2.1, Qw.2.2.2.2.2.1, Qw.2.2.2.2.2.2, Q1.2.2.1, Q1.2.2.2.2.1, Q1.2.2.2.2.2.1, Q1.2.2.2.2.2.2, A1v, A1.2]
                        · simp [ms, q, Qw.2.2.2.2.1, Qw.2.2.2.2.2.1, Qw.2.2.2.2.2.2, Q1.2.2.1, Q1.2.2.2.2.1, Q1.2.2.2.2.2.1, Q1.2.2.2.2.2.2, k5]
                      | intro k h0 h1
                        have k5 := K5 k h0 h1
                        simp only [A0.2, Int.add_zero]
                        by_cases q : k = kV (T a)
                        · simp [ms, q, Q1.2.2.1, Q1.2.2.2.2.1, Q1.2.2.2.2.2.1, Q1.2.2.2.2.2.2, A1v, A1.2]
                        · simp [ms, q, Q1.2.2.1, Q1.2.2.2.2.1, Q1.2.2.2.2.2.1, Q1.2.2.2.2.2.2, k5]
                  · first
                      | rw [Qw.2.2.2.2.2.2, Q1.2.2.2.2.2.2, A0.2, if_pos rfl]
                      | rw [Int.add_zero, Q1.2.2.2.2.2.2, A0.2, if_pos rfl]
                  · first
                      | rw [Qw.2.1]; omega
                      | rw [Int.add_zero]; intro _; assumption
                  · exact frm_ms (frm_ms K6 (by simp [exR])) (by simp [exR])
                  · omega
              · replace b5 := of_decide_eq_false b5
                have W := rq_f T (f := a + 1) (n := n) (by omega) (by omega) (by omega) Q0.1.1 (fun q => by rw [Q0.1.2.2]; refine decide_eq_false (fun z => z ?_); unfold fgV; rw [if_neg]; rw [← bt_at (T := T) q]; omega) (fun _ => by rw [Q0.1.2.1]; omega)
                refine rr_iload1 (pc := 55) B dX9_readsRules_55 ?_
                refine rr_iconst (z := 1) (pc := 56) B dX9_readsRules_56 ?_
                refine rr_iadd (pc := 57) B dX9_readsRules_57 ?_
                refine rr_ireturn (pc := 58) B Br dX9_readsRules_58 ⟨congrArg (fun z => some (aI z)) ?_, ?_⟩
                · exact W.1.symm
                · exact ⟨fun e => absurd (W.1.symm.trans e) (by omega), K6⟩
            · have W := rq_f T (f := a) (n := n) K0.1 K0.2 (by omega) K1 (fun q => by rw [rg_0 K2, ← bt_at (T := T) q]; exact decide_eq_false (by omega)) (fun _ => by rw [K2]; omega)
              refine rr_iload1 (pc := 35) B dX9_readsRules_35 ?_
              refine rr_ireturn (pc := 36) B Br dX9_readsRules_36 ⟨congrArg (fun z => some (aI z)) ?_, ?_⟩
              · exact W.1.symm
              · exact ⟨fun e => absurd (W.1.symm.trans e) (by omega), K6⟩
      · intro M1 a kd K0 K1 K2 K3 K4 K5 K6 K7 K8 K9 K10 hm
        refine rr_rg (fun G1 => ?_)
        have E45 : M1 45 1 = n := (K10 45 1 rfl).trans H0
        have E46 : ∀ i, 0 ≤ i → i < n → M1 46 (80 * 1 + i) = T i := fun i h0 h1 => (K10 46 _ rfl).trans (H1 i h0 h1)
        refine rr_aload0 (pc := 110) B dX9_readsRules_110 ?_
        refine rr_getR (pc := 111) B dX9_readsRules_111 fl_9_37 or_9_11 ?_
        refine rr_iload2 (pc := 114) B dX9_readsRules_114 ?_
        refine rr_aload0 (pc := 115) B dX9_readsRules_115 ?_
        refine rr_iconst (z := 1) (pc := 116) B dX9_readsRules_116 ?_
        refine rr_iload1 (pc := 117) B dX9_readsRules_117 ?_
        refine rc_VI2 (pc := 118) B dX9_readsRules_118 vm_X9_byteAt lk_9_111 so_9 rfl (ct_X9_byteAt _ _ _ _ _ _ (by omega) (by omega) (by exact E45) (by exact E46)) (Nat.le_of_ble_eq_true rfl) (Nat.le_of_ble_eq_true rfl) ?_
        refine rr_bipush (z := 104) (pc := 121) B dX9_readsRules_121 (by decide) ?_
        refine rr_icmp_ne 130 (pc := 123) B dX9_readsRules_123 (by decide) (by have := TB a (by omega); omega) (fun b1 => ?_) (fun b1 => ?_)
        · refine rr_iconst (z := 0) (pc := 130) B dX9_readsRules_130 ?_
          refine rr_iastore (pc := 131) B dX9_readsRules_131 sa_54 (by omega) (by omega) ?_
          refine rr_iload1 (pc := 132) B dX9_readsRules_132 ?_
          refine rr_aload0 (pc := 133) B dX9_readsRules_133 ?_
          refine rr_getR (pc := 134) B dX9_readsRules_134 fl_9_37 or_9_11 ?_
          refine rr_iload2 (pc := 137) B dX9_readsRules_137 ?_
          refine rr_ialoadE (pc := 138) B dX9_readsRules_138 sa_54 (by omega) (ms_at _ _ _ _) (fun b2 => ?_)
          refine rr_iadd (pc := 139) B dX9_readsRules_139 ?_
          refine rr_istore1 (pc := 140) B dX9_readsRules_140 rfl ?_
          refine ih.2.2.1 _ _ _ ?_ ?_ ?_ ?_ ?_ ?_ ?_ ?_ ?_ ?_ ?_
          · omega
          · omega
          · first
              | exact Qh.1
              | rw [Int.add_zero]; exact K2
          · first
              | rw [Qh.2.1]; omega
              | rw [Int.add_zero]; omega
          · first
              | rw [Qh.2.2.2.1, ← K5]; rfl
              | rw [Int.add_zero, ← K5]; rfl
          · show 2 * M1 9 8 + 2 ≤ _; omega
          · first
              | intro k h0 h1
                have k5 := K7 k h0 h1
                by_cases q : k = kd
                · simp [ms, q, Qh.2.2.2.2.1, Qh.2.2.2.2.2.1, Qh.2.2.2.2.2.2, K4]
                  rw [q] at k5
                  exact ⟨k5.1, k5.2.1⟩
                · simp [ms, q, Qh.2.2.2.2.1, Qh.2.2.2.2.2.1, Qh.2.2.2.2.2.2, K4]
                  exact ⟨k5.1, k5.2.1, k5.2.2 q⟩
              | intro k h0 h1
                have k5 := K7 k h0 h1
                simp only [Int.add_zero]
                by_cases q : k = kd
                · simp [ms, q]
                  rw [q] at k5
                  exact ⟨k5.1, k5.2.1, K8.symm⟩
                · simp [ms, q]
                  exact ⟨k5.1, k5.2.1, k5.2.2 q⟩
          · first
              | rw [Qh.2.1]; omega
              | rw [Int.add_zero]; intro q; exact K9 (by omega)
          · first
              | rw [Qh.2.1]; omega
              | rw [Int.add_zero]; intro _; assumption
          · exact frm_ms K10 (by simp [exR])
          · omega
        · have A2 := bt_in (T := T) (n := n) (k := a) (by omega)
          have Qh := (rq_mark T (a := a) (by omega) K2 K3.1).2.2 (by rw [← A2.2]; assumption) (by omega)
          refine rr_iconst (z := 1) (pc := 126) B dX9_readsRules_126 ?_
          refine rr_goto 131 (pc := 127) B dX9_readsRules_127 (by decide) ?_
          refine rr_iastore (pc := 131) B dX9_readsRules_131 sa_54 (by omega) (by omega) ?_
          refine rr_iload1 (pc := 132) B dX9_readsRules_132 ?_
          refine rr_aload0 (pc := 133) B dX9_readsRules_133 ?_
          refine rr_getR (pc := 134) B dX9_readsRules_134 fl_9_37 or_9_11 ?_
          refine rr_iload2 (pc := 137) B dX9_readsRules_137 ?_
          refine rr_ialoadE (pc := 138) B dX9_readsRules_138 sa_54 (by omega) (ms_at _ _ _ _) (fun b2 => ?_)
          refine rr_iadd (pc := 139) B dX9_readsRules_139 ?_
          refine rr_istore1 (pc := 140) B dX9_readsRules_140 rfl ?_
          refine ih.2.2.1 _ _ _ ?_ ?_ ?_ ?_ ?_ ?_ ?_ ?_ ?_ ?_ ?_
          · omega
          · omega
          · first
              | exact Qh.1
              | rw [Int.add_zero]; exact K2
          · first
              | rw [Qh.2.1]; omega
              | rw [Int.add_zero]; omega
          · first
              | rw [Qh.2.2.2.1, ← K5]; rfl
              | rw [Int.add_zero, ← K5]; rfl
          · show 2 * M1 9 8 + 2 ≤ _; omega
          · first
              | intro k h0 h1
                have k5 := K7 k h0 h1
                by_cases q : k = kd
                · simp [ms, q, Qh.2.2.2.2.1, Qh.2.2.2.2.2.1, Qh.2.2.2.2.2.2, K4]
                  rw [q] at k5
                  exact ⟨k5.1, k5.2.1⟩
                · simp [ms, q, Qh.2.2.2.2.1, Qh.2.2.2.2.2.1, Qh.2.2.2.2.2.2, K4]
                  exact ⟨k5.1, k5.2.1, k5.2.2 q⟩
              | intro k h0 h1
                have k5 := K7 k h0 h1
                simp only [Int.add_zero]
                by_cases q : k = kd
                · simp [ms, q]
                  rw [q] at k5
                  exact ⟨k5.1, k5.2.1, K8.symm⟩
                · simp [ms, q]
                  exact ⟨k5.1, k5.2.1, k5.2.2 q⟩
          · first
              | rw [Qh.2.1]; omega
              | rw [Int.add_zero]; intro q; exact K9 (by omega)
          · first
              | rw [Qh.2.1]; omega
              | rw [Int.add_zero]; intro _; assumption
          · exact frm_ms K10 (by simp [exR])
          · omega
      · intro M1 a kd K0 K1 K2 K3 K4 K5 K6 K7 K8 K9 hm
        refine rr_rg (fun G1 => ?_)
        have E45 : M1 45 1 = n := (K9 45 1 rfl).trans H0
        have E46 : ∀ i, 0 ≤ i → i < n → M1 46 (80 * 1 + i) = T i := fun i h0 h1 => (K9 46 _ rfl).trans (H1 i h0 h1)
        refine rr_aload0 (pc := 141) B dX9_readsRules_141 ?_
        refine rr_dup (pc := 142) B dX9_readsRules_142 rfl ?_
        refine rr_getI (pc := 143) B dX9_readsRules_143 fl_9_123 ob_9_8 (fun b1 => ?_)
        refine rr_iconst (z := 1) (pc := 146) B dX9_readsRules_146 ?_
        refine rr_iadd (pc := 147) B dX9_readsRules_147 ?_
        refine rr_putI (pc := 148) B dX9_readsRules_148 fl_9_123 ob_9_8 fi_9_8 (by omega) ?_
        refine rr_iload1 (pc := 151) B dX9_readsRules_151 ?_
        refine rr_aload0 (pc := 152) B dX9_readsRules_152 ?_
        refine rr_getR (pc := 153) B dX9_readsRules_153 fl_9_7 or_9_0 ?_
        refine rr_iconst (z := 1) (pc := 156) B dX9_readsRules_156 ?_
        refine rr_ialoadE (pc := 157) B dX9_readsRules_157 sa_45 (by omega) (E45) (fun b2 => ?_)
        refine rr_icmp_ne 163 (pc := 158) B dX9_readsRules_158 (by decide) (by omega) (fun b3 => ?_) (fun b3 => ?_)
        · refine rr_aload0 (pc := 163) B dX9_readsRules_163 ?_
          refine rr_iconst (z := 1) (pc := 164) B dX9_readsRules_164 ?_
          refine rr_iload1 (pc := 165) B dX9_readsRules_165 ?_
          refine rc_VI2 (pc := 166) B dX9_readsRules_166 vm_X9_byteAt lk_9_111 so_9 rfl (ct_X9_byteAt _ _ _ _ _ _ (by omega) (by omega) (by exact E45) (by exact E46)) (Nat.le_of_ble_eq_true rfl) (Nat.le_of_ble_eq_true rfl) ?_
          refine rr_bipush (z := 59) (pc := 169) B dX9_readsRules_169 (by decide) ?_
          refine rr_icmp_eq 176 (pc := 171) B dX9_readsRules_171 (by decide) (by have := TB a (by omega); omega) (fun b4 => ?_) (fun b4 => ?_)
          · have A5 := bt_in (T := T) (n := n) (k := a) (by omega)
            have Q5 := (rq_mark T (a := a) (by omega) K2 K3.1).1 (by rw [← A5.2]; assumption)
            refine rr_iinc1 (z := 1) (pc := 176) B dX9_readsRules_176 rfl ?_
            refine rr_goto 6 (pc := 179) B dX9_readsRules_179 (by decide) ?_
            refine ih.1 _ _ _ ?_ ?_ ?_ ?_ ?_ ?_ ?_ ?_
            · omega
            · exact Q5.1
            · exact Q5.2.1
            · rw [Q5.2.2.1, ← K4]; exact ms_at _ _ _ _
            · rw [ms_at]; omega
            · intro k h0 h1; rw [Q5.2.2.2.1, Q5.2.2.2.2.1, Q5.2.2.2.2.2]; exact K6 k h0 h1
            · exact frm_ms K9 rfl
            · omega
          · have W := rq_f T (f := a) (n := n) (by omega) (by omega) (by omega) K2 (fun q => by rw [rg_2 K3.1, ← bt_at (T := T) q]; exact decide_eq_false (by omega)) (fun e => by omega)
            refine rr_iload1 (pc := 174) B dX9_readsRules_174 ?_
            refine rr_ireturn (pc := 175) B Br dX9_readsRules_175 ⟨congrArg (fun z => some (aI z)) ?_, ?_⟩
            · exact W.1.symm
            · exact ⟨fun e => absurd (W.1.symm.trans e) (by omega), (frm_ms K9 rfl)⟩
        · have W := (rq_end T (n := n) (by omega) (by rw [← (show a = n by assumption)]; exact K2)).1 (by rw [← (show a = n by assumption)]; exact K3.1)
          refine rr_iconst (z := (-1)) (pc := 161) B dX9_readsRules_161 ?_
          refine rr_ireturn (pc := 162) B Br dX9_readsRules_162 ⟨congrArg (fun z => some (aI z)) ?_, ?_⟩
          · exact W.1.symm
          · refine ⟨fun _ => ⟨?_, fun k h0 h1 => ?_⟩, frm_ms K9 rfl⟩
            · rw [W.2, ← (show a = n by assumption), ← K4]
              exact ms_at _ _ _ _
            · rw [← (show a = n by assumption)]
              exact K6 k h0 h1
  refine rr_aload0 (pc := 0) B dX9_readsRules_0 ?_
  refine rc_VVR0 (pc := 1) B dX9_readsRules_1 vm_X9_noRules lk_9_126 so_9 rfl (ct_X9_noRules _ _   ) (Nat.le_of_ble_eq_true rfl) (Nat.le_of_ble_eq_true rfl) (fun Mb1 b1 => ?_)
  refine rr_iconst (z := 0) (pc := 4) B dX9_readsRules_4 ?_
  refine rr_istore1 (pc := 5) B dX9_readsRules_5 rfl ?_
  refine (L _).1 _ _ _ ?_ ?_ ?_ ?_ ?_ ?_ ?_ (Nat.lt_succ_self _)
  · omega
  · rfl
  · rfl
  · exact b1.1
  · rw [b1.1]; omega
  · intro k h0 h1; exact b1.2.1 k h0 h1
  · exact b1.2.2
def okP0 (T : Int → Int) (n : Int) (M2 : ax_M) : Prop := M2 9 2 = dq T n 0 6 ∧ agD (dq T n) M2 (dq T n 0 6)
def okP1 (T : Int → Int) (n : Int) (M2 : ax_M) : Prop := M2 9 8 = rq T n 5 1 ∧ ∀ k, 0 ≤ k → k < 4 → M2 52 k = (if rq T n 5 2 = -1 then rq T n 30 k else 0) ∧ M2 53 k = (if rq T n 5 2 = -1 then rq T n 31 k else 0) ∧ M2 54 k = (if rq T n 5 2 = -1 then rq T n 32 k else 0)
theorem rq_pa (t : Int → Int) {n : Int} (h : 0 ≤ n) (hf : rq t n 5 2 ≠ -1) : rq t n 5 1 = 0 := by
  rcases Int.lt_or_eq_of_le h with q | q
  · obtain ⟨m, rfl⟩ : ∃ m, n = m + 1 := ⟨n - 1, by omega⟩
    rw [rq_s t (by omega)] at hf ⊢
    rw [tkR_pa, if_neg hf]
  · subst q
    exact absurd rfl hf
theorem rq_flr (t : Int → Int) {n : Int} (h : 0 ≤ n ∧ n ≤ 80) : -1 ≤ rq t n 5 2 ∧ rq t n 5 2 ≤ 80 := by
  have key := itI_inv (f := fun i q => tkR q (t i)) (a := q0) (p := n) (fun (i : Int) (q : ax_M) => q 5 0 = i ∧ (-1 ≤ q 5 9 ∧ q 5 9 ≤ i) ∧ (-1 ≤ q 5 2 ∧ q 5 2 ≤ i)) h.1 ⟨rfl, ⟨by decide, by decide⟩, ⟨by decide, by decide⟩⟩ (fun i q h0 h1 w => by
    obtain ⟨w1, w2, w3⟩ := w
    have e9 : -1 ≤ rk1 q (t i) 5 9 ∧ rk1 q (t i) 5 9 ≤ i := by
      have eb : rgM q (t i) 5 9 = q 5 9 := by
        unfold rgM rkM rnM rmM
        repeat (first | rfl | split)
      unfold rk1
      split
      · split
        · rw [eb]; exact w2
        · show -1 ≤ rgM q (t i) 5 0 ∧ rgM q (t i) 5 0 ≤ i
          rw [rgM_0]; omega
      · exact w2
    refine ⟨by rw [tkR_by, w1], by rw [tkR_br]; omega, ?_⟩
    rw [tkR_fl]
    split <;> omega)
  have e : itI (fun i q => tkR q (t i)) q0 n = rq t n := rfl
  rw [e] at key
  omega
set_option maxHeartbeats 4000000 in
set_option maxRecDepth 100000 in
theorem ct_X9_faultOf0 (g : ax_G) (M : ax_M) (text : Int) (n0 : Int) (T0 : Int → Int) (n1 : Int) (T1 : Int → Int) (H0 : text = 0) (H1 : M 45 0 = n0) (H2 : ∀ i, 0 ≤ i → i < n0 → M 46 (80 * 0 + i) = T0 i) (H3 : M 45 1 = n1) (H4 : ∀ i, 0 ≤ i → i < n1 → M 46 (80 * 1 + i) = T1 i) : CT g md_X9_faultOf 2 [aR 9, aI text] M (pIR (dq T0 n0 0 7) (fun M2 => okP0 T0 n0 M2 ∧ frm exD M M2)) := by
  refine ct_intro 1 rfl rfl ?_
  intro X hg B Br
  subst hg
  show AW X 0 [some (aR 9), some (aI text), none] [] M
  refine rr_rg (fun G0 => ?_)
  refine rr_iload1 (pc := 0) B dX9_faultOf_0 ?_
  refine rr_if_ne 9 (pc := 1) B dX9_faultOf_1 (by decide) (by omega) (fun b1 => absurd b1 (by omega)) (fun b1 => ?_)
  refine rr_aload0 (pc := 4) B dX9_faultOf_4 ?_
  refine rc_VIR0 (pc := 5) B dX9_faultOf_5 vm_X9_readsDeeds lk_9_129 so_9 rfl (ct_X9_readsDeeds _ _  _ _ (by exact H1) (by exact H2)) (Nat.le_of_ble_eq_true rfl) (Nat.le_of_ble_eq_true rfl) (fun Mb2 b2 => ?_)
  refine rr_ireturn (pc := 8) B Br dX9_faultOf_8 ⟨congrArg (fun z => some (aI z)) ?_, ?_⟩
  · rfl
  · exact ⟨⟨b2.1, b2.2.1⟩, b2.2.2⟩
set_option maxHeartbeats 4000000 in
set_option maxRecDepth 100000 in
theorem ct_X9_faultOf1 (g : ax_G) (M : ax_M) (text : Int) (n0 : Int) (T0 : Int → Int) (n1 : Int) (T1 : Int → Int) (H0 : text = 1) (H1 : M 45 0 = n0) (H2 : ∀ i, 0 ≤ i → i < n0 → M 46 (80 * 0 + i) = T0 i) (H3 : M 45 1 = n1) (H4 : ∀ i, 0 ≤ i → i < n1 → M 46 (80 * 1 + i) = T1 i) : CT g md_X9_faultOf 2 [aR 9, aI text] M (pIR (rq T1 n1 5 2) (fun M2 => okP1 T1 n1 M2 ∧ frm exR M M2)) := by
  refine ct_intro 1 rfl rfl ?_
  intro X hg B Br
  subst hg
  show AW X 0 [some (aR 9), some (aI text), none] [] M
  refine rr_rg (fun G0 => ?_)
  have N1 : 0 ≤ n1 ∧ n1 ≤ 80 := by have := G0.at (sa_45.2.2 1); rw [H3] at this; omega
  have FB : -1 ≤ rq T1 n1 5 2 ∧ rq T1 n1 5 2 ≤ 80 := rq_flr T1 N1
  refine rr_iload1 (pc := 0) B dX9_faultOf_0 ?_
  refine rr_if_ne 9 (pc := 1) B dX9_faultOf_1 (by decide) (by omega) (fun b1 => ?_) (fun b1 => absurd b1 (by omega))
  refine rr_aload0 (pc := 9) B dX9_faultOf_9 ?_
  refine rc_VIR0 (pc := 10) B dX9_faultOf_10 vm_X9_readsRules lk_9_133 so_9 rfl (ct_X9_readsRules _ _  _ _ (by exact H3) (by exact H4)) (Nat.le_of_ble_eq_true rfl) (Nat.le_of_ble_eq_true rfl) (fun Mb2 b2 => ?_)
  refine rr_istore2 (pc := 13) B dX9_faultOf_13 rfl ?_
  refine rr_iload2 (pc := 14) B dX9_faultOf_14 ?_
  refine rr_iconst (z := (-1)) (pc := 15) B dX9_faultOf_15 ?_
  refine rr_icmp_eq 23 (pc := 16) B dX9_faultOf_16 (by decide) (by omega) (fun b3 => ?_) (fun b3 => ?_)
  · refine rr_iload2 (pc := 23) B dX9_faultOf_23 ?_
    refine rr_ireturn (pc := 24) B Br dX9_faultOf_24 ⟨congrArg (fun z => some (aI z)) ?_, ?_⟩
    · rfl
    · first
        | exact ⟨⟨by rw [b4.1]; exact (rq_pa T1 N1.1 (by assumption)).symm, fun k h0 h1 => by rw [if_neg (by assumption), if_neg (by assumption), if_neg (by assumption)]; exact b4.2.1 k h0 h1⟩, frm_tr b2.2 b4.2.2⟩
        | exact ⟨⟨(b2.1 (by assumption)).1, fun k h0 h1 => by rw [if_pos (by assumption), if_pos (by assumption), if_pos (by assumption)]; exact (b2.1 (by assumption)).2 k h0 h1⟩, b2.2⟩
  · refine rr_aload0 (pc := 19) B dX9_faultOf_19 ?_
    refine rc_VVR0 (pc := 20) B dX9_faultOf_20 vm_X9_noRules lk_9_126 so_9 rfl (ct_X9_noRules _ _   ) (Nat.le_of_ble_eq_true rfl) (Nat.le_of_ble_eq_true rfl) (fun Mb4 b4 => ?_)
    refine rr_iload2 (pc := 23) B dX9_faultOf_23 ?_
    refine rr_ireturn (pc := 24) B Br dX9_faultOf_24 ⟨congrArg (fun z => some (aI z)) ?_, ?_⟩
    · rfl
    · first
        | exact ⟨⟨by rw [b4.1]; exact (rq_pa T1 N1.1 (by assumption)).symm, fun k h0 h1 => by rw [if_neg (by assumption), if_neg (by assumption), if_neg (by assumption)]; exact b4.2.1 k h0 h1⟩, frm_tr b2.2 b4.2.2⟩
        | exact ⟨⟨(b2.1 (by assumption)).1, fun k h0 h1 => by rw [if_pos (by assumption), if_pos (by assumption), if_pos (by assumption)]; exact (b2.1 (by assumption)).2 k h0 h1⟩, b2.2⟩
