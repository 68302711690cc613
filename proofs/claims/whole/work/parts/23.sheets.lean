theorem rdS_ne {S : ax_M} {s n : Int} (hn : 0 ≤ n) {k : Nat} (hk : k ≠ 59) : rdS S s n k = S k := by
  unfold rdS
  refine itI_inv (fun (i : Int) (x : ax_M) => x k = S k) hn rfl (fun i x h0 h1 q => ?_)
  show ms x 59 i _ k = S k
  rw [ms_ne hk, q]
theorem rdN_eq {S : ax_M} {s n : Int} (h0 : 0 ≤ n) (h1 : n ≤ 8) (ha : ∀ h, 0 ≤ h → h < n → rdOk S s h = true) (he : n = 8 ∨ rdOk S s n = false) : rdN S s = n := by
  unfold rdN
  have := itI_inv (f := fun h n => if n = h ∧ rdOk S s h = true then n + 1 else n) (a := 0) (p := 8) (fun i x => x = if i ≤ n then i else n) (by decide) (by rw [if_pos h0]) (fun i x a b q => by
    show (if x = i ∧ rdOk S s i = true then x + 1 else x) = _
    by_cases c : i ≤ n
    · rw [if_pos c] at q
      subst q
      by_cases d : x < n
      · rw [if_pos ⟨rfl, ha x a d⟩, if_pos (by omega)]
      · rw [if_neg (by
          rintro ⟨-, w⟩
          rcases he with he | he
          · omega
          · rw [show x = n by omega, he] at w; cases w), if_neg (by omega)]
        omega
    · rw [if_neg c] at q
      rw [if_neg (by omega), if_neg (by omega), q])
  rw [this]
  split <;> omega
theorem rdOk_f {S : ax_M} {s h : Int} (w : ¬ (h < S 72 s ∧ h < 8 ∧ 0 ≤ S 73 (60 * s + h) ∧ S 73 (60 * s + h) ≤ 1)) : rdOk S s h = false := decide_eq_false w
theorem zer_ne {S : ax_M} {s n : Int} (hn : 0 ≤ n) {k : Nat} (hk : k ≠ 73) : zer S s n k = S k := by
  unfold zer
  refine itI_inv (fun (i : Int) (x : ax_M) => x k = S k) hn rfl (fun i x h0 h1 q => ?_)
  show ms x 73 _ _ k = S k
  rw [ms_ne hk, q]
theorem mc_0 (S : ax_M) (a b : Nat) (sp dp : Int) : mc S a sp b dp 0 = S := by
  funext k i
  unfold mc
  rw [if_neg (by omega)]
theorem mc_s {S : ax_M} {a b : Nat} {sp dp q : Int} (h : 0 ≤ q) : mc S a sp b dp (q + 1) = ms (mc S a sp b dp q) b (dp + q) (S a (sp + q)) := by
  funext k i
  unfold mc ms
  by_cases e : k = b ∧ i = dp + q
  · rw [if_pos e, if_pos (by omega)]
    congr 1
    omega
  · rw [if_neg e]
    show _ = (if k = b ∧ dp ≤ i ∧ i < dp + q then S a (sp + (i - dp)) else S k i)
    by_cases e2 : k = b ∧ dp ≤ i ∧ i < dp + q
    · rw [if_pos e2, if_pos (by omega)]
    · rw [if_neg e2, if_neg (by omega)]
theorem lkV_r (S : ax_M) (s f i : Int) : 0 ≤ lkV S s f i ∧ lkV S s f i ≤ 3 := by
  unfold lkV
  split
  · omega
  · split
    · omega
    · split <;> omega
theorem lkV_0 {S : ax_M} {s f i : Int} (h : ¬ 0 < lkV S s f i) (hi : S 70 s = 0 ∨ S 70 s = 1) : 0 ≤ i ∧ i ≤ S 72 s - 1 := by
  unfold lkV at h
  split at h
  · omega
  · split at h
    · omega
    · split at h <;> omega
theorem pcV_r {V : ax_M} {s : Int} (hn : 0 ≤ V 9 2 ∧ V 9 2 ≤ 8) (hV : ∀ p, 0 ≤ p → p < 8 → 0 ≤ V 57 p ∧ V 57 p ≤ 99) (hr : 0 ≤ V 60 0 ∧ V 60 0 ≤ 999) : -3 ≤ pcV V s ∧ pcV V s ≤ 8000000 := by
  unfold pcV
  split
  · unfold csP
    have := itI_inv (f := fun h c => c + cT V (hsP V s h (V 9 2)) h) (a := 0) (p := 8) (fun i x => 0 ≤ x ∧ x ≤ 1000000 * i) (by decide) (by decide) (fun i x h0 h1 q => by
      have := cT_r (V := V) (set := hsP V s i (V 9 2)) (h := i) hn hV hr
      show 0 ≤ x + cT V (hsP V s i (V 9 2)) i ∧ x + cT V (hsP V s i (V 9 2)) i ≤ _
      omega)
    omega
  · omega
set_option maxHeartbeats 4000000 in
set_option maxRecDepth 100000 in
theorem ct_X9_lacks (g : ax_G) (M : ax_M) (s f i : Int) (S : ax_M) (H0 : bs S M) (H1 : 0 ≤ s ∧ s ≤ 3) (H2 : -2147483648 ≤ f ∧ f ≤ 2147483647 ∧ -2147483648 ≤ i ∧ i ≤ 2147483647) : CT g md_X9_lacks 1 [aR 9, aI s, aI f, aI i] M (pI (lkV S s f i) (M)) := by
  refine ct_intro 0 rfl rfl ?_
  intro X hg B Br
  subst hg
  show AW X 0 [some (aR 9), some (aI s), some (aI f), some (aI i)] [] M
  refine rr_rg (fun G0 => ?_)
  have HB := H0
  refine rr_aload0 (pc := 0) B dX9_lacks_0 ?_
  refine rr_getR (pc := 1) B dX9_lacks_1 fl_9_85 or_9_33 ?_
  refine rr_iload1 (pc := 4) B dX9_lacks_4 ?_
  refine rr_zaloadE (pc := 5) B dX9_lacks_5 sa_70 (by omega) (HB 70 _ rfl) (fun b1 => ?_)
  refine rr_if_ne 13 (pc := 6) B dX9_lacks_6 (by decide) (by omega) (fun b2 => ?_) (fun b2 => ?_)
  · refine rr_aload0 (pc := 13) B dX9_lacks_13 ?_
    refine rr_getR (pc := 14) B dX9_lacks_14 fl_9_89 or_9_34 ?_
    refine rr_iload1 (pc := 17) B dX9_lacks_17 ?_
    refine rr_ialoadE (pc := 18) B dX9_lacks_18 sa_71 (by omega) (HB 71 _ rfl) (fun b3 => ?_)
    refine rr_iload2 (pc := 19) B dX9_lacks_19 ?_
    refine rr_icmp_eq 27 (pc := 20) B dX9_lacks_20 (by decide) (by omega) (fun b4 => ?_) (fun b4 => ?_)
    · refine rr_iload3 (pc := 27) B dX9_lacks_27 ?_
      refine rr_iconst (z := 0) (pc := 28) B dX9_lacks_28 ?_
      refine rr_aload0 (pc := 29) B dX9_lacks_29 ?_
      refine rr_getR (pc := 30) B dX9_lacks_30 fl_9_92 or_9_35 ?_
      refine rr_iload1 (pc := 33) B dX9_lacks_33 ?_
      refine rr_ialoadE (pc := 34) B dX9_lacks_34 sa_72 (by omega) (HB 72 _ rfl) (fun b5 => ?_)
      refine rr_iconst (z := 1) (pc := 35) B dX9_lacks_35 ?_
      refine rr_isub (pc := 36) B dX9_lacks_36 ?_
      refine rc_SI3 (pc := 37) B dX9_lacks_37 st_X9_in lk_9_103 (ct_X9_in _ _ _ _ _  (by omega)) (Nat.le_of_ble_eq_true rfl) (Nat.le_of_ble_eq_true rfl) ?_
      refine rr_if_eqB 47 (pc := 40) B dX9_lacks_40 (by decide) (fun b6 => ?_) (fun b6 => ?_)
      · replace b6 := of_decide_eq_false b6
        refine rr_iconst (z := 2) (pc := 47) B dX9_lacks_47 ?_
        refine rr_ireturn (pc := 48) B Br dX9_lacks_48 ⟨congrArg (fun z => some (aI z)) ?_, ?_⟩
        · unfold lkV; repeat (first | rw [if_pos (by omega)] | rw [if_neg (by omega)])
        · first | rfl | assumption
      · replace b6 := of_decide_eq_true b6
        refine rr_iconst (z := 0) (pc := 43) B dX9_lacks_43 ?_
        refine rr_goto 48 (pc := 44) B dX9_lacks_44 (by decide) ?_
        refine rr_ireturn (pc := 48) B Br dX9_lacks_48 ⟨congrArg (fun z => some (aI z)) ?_, ?_⟩
        · unfold lkV; repeat (first | rw [if_pos (by omega)] | rw [if_neg (by omega)])
        · first | rfl | assumption
    · refine rr_iconst (z := 3) (pc := 23) B dX9_lacks_23 ?_
      refine rr_goto 48 (pc := 24) B dX9_lacks_24 (by decide) ?_
      refine rr_ireturn (pc := 48) B Br dX9_lacks_48 ⟨congrArg (fun z => some (aI z)) ?_, ?_⟩
      · unfold lkV; repeat (first | rw [if_pos (by omega)] | rw [if_neg (by omega)])
      · first | rfl | assumption
  · refine rr_iconst (z := 1) (pc := 9) B dX9_lacks_9 ?_
    refine rr_goto 48 (pc := 10) B dX9_lacks_10 (by decide) ?_
    refine rr_ireturn (pc := 48) B Br dX9_lacks_48 ⟨congrArg (fun z => some (aI z)) ?_, ?_⟩
    · unfold lkV; repeat (first | rw [if_pos (by omega)] | rw [if_neg (by omega)])
    · first | rfl | assumption
set_option maxHeartbeats 4000000 in
set_option maxRecDepth 100000 in
theorem ct_X9_keep (g : ax_G) (M : ax_M) (s i v : Int) (S : ax_M) (H0 : bs S M) (H1 : 0 ≤ s ∧ s ≤ 3) (H2 : 0 ≤ i ∧ i < 60) (H3 : -2147483648 ≤ v ∧ v ≤ 2147483647) : CT g md_X9_keep 0 [aR 9, aI s, aI i, aI v] M (pVR (fun M2 => bs (kpS S s i v) M2 ∧ frm (fun k _ => decide (k = 73)) M M2)) := by
  refine ct_intro 0 rfl rfl ?_
  intro X hg B Br
  subst hg
  show AW X 0 [some (aR 9), some (aI s), some (aI i), some (aI v)] [] M
  refine rr_rg (fun G0 => ?_)
  have HB := H0
  refine rr_aload0 (pc := 0) B dX9_keep_0 ?_
  refine rr_getR (pc := 1) B dX9_keep_1 fl_9_95 or_9_36 ?_
  refine rr_bipush (z := 60) (pc := 4) B dX9_keep_4 (by decide) ?_
  refine rr_iload1 (pc := 6) B dX9_keep_6 ?_
  refine rr_imul (pc := 7) B dX9_keep_7 ?_
  refine rr_iload2 (pc := 8) B dX9_keep_8 ?_
  refine rr_iadd (pc := 9) B dX9_keep_9 ?_
  refine rr_aload0 (pc := 10) B dX9_keep_10 ?_
  refine rr_getR (pc := 11) B dX9_keep_11 fl_9_89 or_9_34 ?_
  refine rr_iload1 (pc := 14) B dX9_keep_14 ?_
  refine rr_ialoadE (pc := 15) B dX9_keep_15 sa_71 (by omega) (HB 71 _ rfl) (fun b1 => ?_)
  refine rr_if_ne 24 (pc := 16) B dX9_keep_16 (by decide) (by omega) (fun b2 => ?_) (fun b2 => ?_)
  · refine rr_aload0 (pc := 24) B dX9_keep_24 ?_
    refine rr_getR (pc := 25) B dX9_keep_25 fl_9_89 or_9_34 ?_
    refine rr_iload1 (pc := 28) B dX9_keep_28 ?_
    refine rr_ialoadE (pc := 29) B dX9_keep_29 sa_71 (by omega) (HB 71 _ rfl) (fun b3 => ?_)
    refine rr_iconst (z := 1) (pc := 30) B dX9_keep_30 ?_
    refine rr_icmp_ne 39 (pc := 31) B dX9_keep_31 (by decide) (by omega) (fun b4 => ?_) (fun b4 => ?_)
    · refine rr_iload3 (pc := 39) B dX9_keep_39 ?_
      refine rr_iastore (pc := 40) B dX9_keep_40 sa_73 (by omega) (by have := b8_r v; have := s16_r v; omega) ?_
      refine rr_return (pc := 41) B Br dX9_keep_41 ⟨rfl, ?_⟩
      · refine ⟨?_, frm_ms frm_rfl rfl⟩
        unfold kpS kpV; repeat (first | rw [if_pos (by omega)] | rw [if_neg (by omega)])
        exact bs_ms H0 _ _ _
    · refine rr_iload3 (pc := 34) B dX9_keep_34 ?_
      refine rr_i2s (pc := 35) B dX9_keep_35 ?_
      refine rr_goto 40 (pc := 36) B dX9_keep_36 (by decide) ?_
      refine rr_iastore (pc := 40) B dX9_keep_40 sa_73 (by omega) (by have := b8_r v; have := s16_r v; omega) ?_
      refine rr_return (pc := 41) B Br dX9_keep_41 ⟨rfl, ?_⟩
      · refine ⟨?_, frm_ms frm_rfl rfl⟩
        unfold kpS kpV; repeat (first | rw [if_pos (by omega)] | rw [if_neg (by omega)])
        exact bs_ms H0 _ _ _
  · refine rr_iload3 (pc := 19) B dX9_keep_19 ?_
    refine rr_i2b (pc := 20) B dX9_keep_20 ?_
    refine rr_goto 40 (pc := 21) B dX9_keep_21 (by decide) ?_
    refine rr_iastore (pc := 40) B dX9_keep_40 sa_73 (by omega) (by have := b8_r v; have := s16_r v; omega) ?_
    refine rr_return (pc := 41) B Br dX9_keep_41 ⟨rfl, ?_⟩
    · refine ⟨?_, frm_ms frm_rfl rfl⟩
      unfold kpS kpV; repeat (first | rw [if_pos (by omega)] | rw [if_neg (by omega)])
      exact bs_ms H0 _ _ _
set_option maxHeartbeats 4000000 in
set_option maxRecDepth 100000 in
theorem ct_X9_lose (g : ax_G) (M : ax_M) (s : Int) (S : ax_M) (H0 : bs S M) (H1 : SI S) (H2 : -2147483648 ≤ s ∧ s ≤ 2147483647) : CT g md_X9_lose 2 [aR 9, aI s] M (pIR (vLose S s) (fun M2 => bs (sLose S s) M2 ∧ co M M2)) := by
  refine ct_intro 0 rfl rfl ?_
  intro X hg B Br
  subst hg
  show AW X 0 [some (aR 9), some (aI s)] [] M
  refine rr_rg (fun G0 => ?_)
  have HB := H0
  refine rr_iload1 (pc := 0) B dX9_lose_0 ?_
  refine rc_SI1 (pc := 1) B dX9_lose_1 st_X9_isSheet lk_9_158 (ct_X9_isSheet _ _ _  (by omega)) (Nat.le_of_ble_eq_true rfl) (Nat.le_of_ble_eq_true rfl) ?_
  refine rr_if_neB 10 (pc := 4) B dX9_lose_4 (by decide) (fun b1 => ?_) (fun b1 => ?_)
  · replace b1 := of_decide_eq_true b1
    refine rr_aload0 (pc := 10) B dX9_lose_10 ?_
    refine rr_getR (pc := 11) B dX9_lose_11 fl_9_85 or_9_33 ?_
    refine rr_iload1 (pc := 14) B dX9_lose_14 ?_
    refine rr_zaloadE (pc := 15) B dX9_lose_15 sa_70 (by omega) (HB 70 _ rfl) (fun b2 => ?_)
    refine rr_if_ne 25 (pc := 16) B dX9_lose_16 (by decide) (by omega) (fun b3 => ?_) (fun b3 => ?_)
    · refine rr_aload0 (pc := 25) B dX9_lose_25 ?_
      refine rr_getR (pc := 26) B dX9_lose_26 fl_9_85 or_9_33 ?_
      refine rr_iload1 (pc := 29) B dX9_lose_29 ?_
      refine rr_iconst (z := 0) (pc := 30) B dX9_lose_30 ?_
      refine rr_zastore (pc := 31) B dX9_lose_31 sa_70 (by omega) (by omega) (by omega) ?_
      refine rr_aload0 (pc := 32) B dX9_lose_32 ?_
      refine rr_getR (pc := 33) B dX9_lose_33 fl_9_92 or_9_35 ?_
      refine rr_iload1 (pc := 36) B dX9_lose_36 ?_
      refine rr_ialoadE (pc := 37) B dX9_lose_37 sa_72 (by omega) (HB 72 _ rfl) (fun b4 => ?_)
      refine rr_ireturn (pc := 38) B Br dX9_lose_38 ⟨congrArg (fun z => some (aI z)) ?_, ?_⟩
      · unfold vLose; repeat (first | rw [if_pos (by omega)] | rw [if_neg (by omega)])
      · unfold sLose mee; repeat (first | rw [if_pos (by omega)] | rw [if_neg (by omega)])
        first | exact ⟨bs_ms H0 _ _ _, co_ms (co_rfl M) (by decide)⟩ | exact ⟨H0, co_rfl M⟩
    · refine rr_aload0 (pc := 19) B dX9_lose_19 ?_
      refine rr_iconst (z := 1) (pc := 20) B dX9_lose_20 ?_
      refine rc_VI1 (pc := 21) B dX9_lose_21 vm_X9_meets lk_9_161 so_9 rfl (ct_X9_meets _ _ _  (by omega)) (Nat.le_of_ble_eq_true rfl) (Nat.le_of_ble_eq_true rfl) ?_
      refine rr_ireturn (pc := 24) B Br dX9_lose_24 ⟨congrArg (fun z => some (aI z)) ?_, ?_⟩
      · unfold vLose; repeat (first | rw [if_pos (by omega)] | rw [if_neg (by omega)])
      · unfold sLose mee; repeat (first | rw [if_pos (by omega)] | rw [if_neg (by omega)])
        first | exact ⟨bs_ms H0 _ _ _, co_ms (co_rfl M) (by decide)⟩ | exact ⟨H0, co_rfl M⟩
  · replace b1 := of_decide_eq_false b1
    refine rr_bipush (z := (-2)) (pc := 7) B dX9_lose_7 (by decide) ?_
    refine rr_ireturn (pc := 9) B Br dX9_lose_9 ⟨congrArg (fun z => some (aI z)) ?_, ?_⟩
    · unfold vLose; repeat (first | rw [if_pos (by omega)] | rw [if_neg (by omega)])
    · unfold sLose mee; repeat (first | rw [if_pos (by omega)] | rw [if_neg (by omega)])
      first | exact ⟨bs_ms H0 _ _ _, co_ms (co_rfl M) (by decide)⟩ | exact ⟨H0, co_rfl M⟩
set_option maxHeartbeats 4000000 in
set_option maxRecDepth 100000 in
theorem ct_X9_put (g : ax_G) (M : ax_M) (s f i v : Int) (S : ax_M) (H0 : bs S M) (H1 : SI S) (H2 : -2147483648 ≤ s ∧ s ≤ 2147483647 ∧ -2147483648 ≤ f ∧ f ≤ 2147483647 ∧ -2147483648 ≤ i ∧ i ≤ 2147483647 ∧ -2147483648 ≤ v ∧ v ≤ 2147483647) : CT g md_X9_put 2 [aR 9, aI s, aI f, aI i, aI v] M (pIR (vPut S s f i) (fun M2 => bs (sPut S s f i v) M2 ∧ co M M2)) := by
  refine ct_intro 1 rfl rfl ?_
  intro X hg B Br
  subst hg
  show AW X 0 [some (aR 9), some (aI s), some (aI f), some (aI i), some (aI v), none] [] M
  refine rr_rg (fun G0 => ?_)
  have HB := H0
  refine rr_iload1 (pc := 0) B dX9_put_0 ?_
  refine rc_SI1 (pc := 1) B dX9_put_1 st_X9_isSheet lk_9_158 (ct_X9_isSheet _ _ _  (by omega)) (Nat.le_of_ble_eq_true rfl) (Nat.le_of_ble_eq_true rfl) ?_
  refine rr_if_eqB 16 (pc := 4) B dX9_put_4 (by decide) (fun b1 => ?_) (fun b1 => ?_)
  · replace b1 := of_decide_eq_false b1
    refine rr_bipush (z := (-2)) (pc := 16) B dX9_put_16 (by decide) ?_
    refine rr_ireturn (pc := 18) B Br dX9_put_18 ⟨congrArg (fun z => some (aI z)) ?_, ?_⟩
    · unfold vPut; repeat (first | rw [if_pos (by omega)] | rw [if_neg (by omega)])
    · unfold sPut mee; repeat (first | rw [if_pos (by omega)] | rw [if_neg (by omega)])
      first | exact ⟨bs_ms H0 _ _ _, co_ms (co_rfl M) (by decide)⟩ | exact ⟨H0, co_rfl M⟩ | exact ⟨b4.1, fun k i e => b4.2 k i (decide_eq_false (by omega))⟩
  · replace b1 := of_decide_eq_true b1
    refine rr_iload2 (pc := 7) B dX9_put_7 ?_
    refine rr_iconst (z := 0) (pc := 8) B dX9_put_8 ?_
    refine rr_iconst (z := 2) (pc := 9) B dX9_put_9 ?_
    refine rc_SI3 (pc := 10) B dX9_put_10 st_X9_in lk_9_103 (ct_X9_in _ _ _ _ _  (by omega)) (Nat.le_of_ble_eq_true rfl) (Nat.le_of_ble_eq_true rfl) ?_
    refine rr_if_neB 19 (pc := 13) B dX9_put_13 (by decide) (fun b2 => ?_) (fun b2 => ?_)
    · replace b2 := of_decide_eq_true b2
      refine rr_aload0 (pc := 19) B dX9_put_19 ?_
      refine rr_iload1 (pc := 20) B dX9_put_20 ?_
      refine rr_iload2 (pc := 21) B dX9_put_21 ?_
      refine rr_iload3 (pc := 22) B dX9_put_22 ?_
      refine rc_VI3 (pc := 23) B dX9_put_23 vm_X9_lacks lk_9_277 so_9 rfl (ct_X9_lacks _ _ _ _ _ S (by exact H0) (by omega) (by omega)) (Nat.le_of_ble_eq_true rfl) (Nat.le_of_ble_eq_true rfl) ?_
      refine rr_istore5 (pc := 26) B dX9_put_26 rfl ?_
      refine rr_iload5 (pc := 28) B dX9_put_28 ?_
      refine rr_if_le 40 (pc := 30) B dX9_put_30 (by decide) (by have := lkV_r S s f i; omega) (fun b3 => ?_) (fun b3 => ?_)
      · refine rr_aload0 (pc := 40) B dX9_put_40 ?_
        refine rr_iload1 (pc := 41) B dX9_put_41 ?_
        refine rr_iload3 (pc := 42) B dX9_put_42 ?_
        refine rr_iload4 (pc := 43) B dX9_put_43 ?_
        refine rc_VVR3 (pc := 45) B dX9_put_45 vm_X9_keep lk_9_281 so_9 rfl (ct_X9_keep _ _ _ _ _ S (by exact H0) (by omega) (by have q := lkV_0 (S := S) (s := s) (f := f) (i := i) (by omega) (by have := G0.at (sa_70.2.2 s); rw [HB 70 s rfl] at this; omega); have r := G0.at (sa_72.2.2 s); rw [HB 72 s rfl] at r; omega) (by omega)) (Nat.le_of_ble_eq_true rfl) (Nat.le_of_ble_eq_true rfl) (fun Mb4 b4 => ?_)
        refine rr_iconst (z := 1) (pc := 48) B dX9_put_48 ?_
        refine rr_ireturn (pc := 49) B Br dX9_put_49 ⟨congrArg (fun z => some (aI z)) ?_, ?_⟩
        · unfold vPut; repeat (first | rw [if_pos (by omega)] | rw [if_neg (by omega)])
        · unfold sPut mee; repeat (first | rw [if_pos (by omega)] | rw [if_neg (by omega)])
          first | exact ⟨bs_ms H0 _ _ _, co_ms (co_rfl M) (by decide)⟩ | exact ⟨H0, co_rfl M⟩ | exact ⟨b4.1, fun k i e => b4.2 k i (decide_eq_false (by omega))⟩
      · refine rr_aload0 (pc := 33) B dX9_put_33 ?_
        refine rr_iload5 (pc := 34) B dX9_put_34 ?_
        refine rc_VI1 (pc := 36) B dX9_put_36 vm_X9_meets lk_9_161 so_9 rfl (ct_X9_meets _ _ _  (by have := lkV_r S s f i; omega)) (Nat.le_of_ble_eq_true rfl) (Nat.le_of_ble_eq_true rfl) ?_
        refine rr_ireturn (pc := 39) B Br dX9_put_39 ⟨congrArg (fun z => some (aI z)) ?_, ?_⟩
        · unfold vPut; repeat (first | rw [if_pos (by omega)] | rw [if_neg (by omega)])
        · unfold sPut mee; repeat (first | rw [if_pos (by omega)] | rw [if_neg (by omega)])
          first | exact ⟨bs_ms H0 _ _ _, co_ms (co_rfl M) (by decide)⟩ | exact ⟨H0, co_rfl M⟩ | exact ⟨b4.1, fun k i e => b4.2 k i (decide_eq_false (by omega))⟩
    · replace b2 := of_decide_eq_false b2
      refine rr_bipush (z := (-2)) (pc := 16) B dX9_put_16 (by decide) ?_
      refine rr_ireturn (pc := 18) B Br dX9_put_18 ⟨congrArg (fun z => some (aI z)) ?_, ?_⟩
      · unfold vPut; repeat (first | rw [if_pos (by omega)] | rw [if_neg (by omega)])
      · unfold sPut mee; repeat (first | rw [if_pos (by omega)] | rw [if_neg (by omega)])
        first | exact ⟨bs_ms H0 _ _ _, co_ms (co_rfl M) (by decide)⟩ | exact ⟨H0, co_rfl M⟩ | exact ⟨b4.1, fun k i e => b4.2 k i (decide_eq_false (by omega))⟩
set_option maxHeartbeats 4000000 in
set_option maxRecDepth 100000 in
theorem ct_X9_get (g : ax_G) (M : ax_M) (s f i : Int) (S : ax_M) (H0 : bs S M) (H1 : SI S) (H2 : -2147483648 ≤ s ∧ s ≤ 2147483647 ∧ -2147483648 ≤ f ∧ f ≤ 2147483647 ∧ -2147483648 ≤ i ∧ i ≤ 2147483647) : CT g md_X9_get 2 [aR 9, aI s, aI f, aI i] M (pIR (vGet S s f i) (fun M2 => bs (sGet S s f i) M2 ∧ co M M2)) := by
  refine ct_intro 1 rfl rfl ?_
  intro X hg B Br
  subst hg
  show AW X 0 [some (aR 9), some (aI s), some (aI f), some (aI i), none] [] M
  refine rr_rg (fun G0 => ?_)
  have HB := H0
  refine rr_iload1 (pc := 0) B dX9_get_0 ?_
  refine rc_SI1 (pc := 1) B dX9_get_1 st_X9_isSheet lk_9_158 (ct_X9_isSheet _ _ _  (by omega)) (Nat.le_of_ble_eq_true rfl) (Nat.le_of_ble_eq_true rfl) ?_
  refine rr_if_eqB 16 (pc := 4) B dX9_get_4 (by decide) (fun b1 => ?_) (fun b1 => ?_)
  · replace b1 := of_decide_eq_false b1
    refine rr_ldcw (z := (-2147483648)) (pc := 16) B dX9_get_16 cn_9_285 (by decide) ?_
    refine rr_ireturn (pc := 19) B Br dX9_get_19 ⟨congrArg (fun z => some (aI z)) ?_, ?_⟩
    · unfold vGet; repeat (first | rw [if_pos (by omega)] | rw [if_neg (by omega)])
    · unfold sGet mee; repeat (first | rw [if_pos (by omega)] | rw [if_neg (by omega)])
      first | exact ⟨bs_ms H0 _ _ _, co_ms (co_rfl M) (by decide)⟩ | exact ⟨H0, co_rfl M⟩
  · replace b1 := of_decide_eq_true b1
    refine rr_iload2 (pc := 7) B dX9_get_7 ?_
    refine rr_iconst (z := 0) (pc := 8) B dX9_get_8 ?_
    refine rr_iconst (z := 2) (pc := 9) B dX9_get_9 ?_
    refine rc_SI3 (pc := 10) B dX9_get_10 st_X9_in lk_9_103 (ct_X9_in _ _ _ _ _  (by omega)) (Nat.le_of_ble_eq_true rfl) (Nat.le_of_ble_eq_true rfl) ?_
    refine rr_if_neB 20 (pc := 13) B dX9_get_13 (by decide) (fun b2 => ?_) (fun b2 => ?_)
    · replace b2 := of_decide_eq_true b2
      refine rr_aload0 (pc := 20) B dX9_get_20 ?_
      refine rr_iload1 (pc := 21) B dX9_get_21 ?_
      refine rr_iload2 (pc := 22) B dX9_get_22 ?_
      refine rr_iload3 (pc := 23) B dX9_get_23 ?_
      refine rc_VI3 (pc := 24) B dX9_get_24 vm_X9_lacks lk_9_277 so_9 rfl (ct_X9_lacks _ _ _ _ _ S (by exact H0) (by omega) (by omega)) (Nat.le_of_ble_eq_true rfl) (Nat.le_of_ble_eq_true rfl) ?_
      refine rr_istore4 (pc := 27) B dX9_get_27 rfl ?_
      refine rr_iload4 (pc := 29) B dX9_get_29 ?_
      refine rr_if_le 44 (pc := 31) B dX9_get_31 (by decide) (by have := lkV_r S s f i; omega) (fun b3 => ?_) (fun b3 => ?_)
      · refine rr_aload0 (pc := 44) B dX9_get_44 ?_
        refine rr_getR (pc := 45) B dX9_get_45 fl_9_95 or_9_36 ?_
        refine rr_bipush (z := 60) (pc := 48) B dX9_get_48 (by decide) ?_
        refine rr_iload1 (pc := 50) B dX9_get_50 ?_
        refine rr_imul (pc := 51) B dX9_get_51 ?_
        refine rr_iload3 (pc := 52) B dX9_get_52 ?_
        refine rr_iadd (pc := 53) B dX9_get_53 ?_
        refine rr_ialoadE (pc := 54) B dX9_get_54 sa_73 (by have q := lkV_0 (S := S) (s := s) (f := f) (i := i) (by omega) (by have := G0.at (sa_70.2.2 s); rw [HB 70 s rfl] at this; omega); have r := G0.at (sa_72.2.2 s); rw [HB 72 s rfl] at r; omega) (HB 73 _ rfl) (fun b4 => ?_)
        refine rr_ireturn (pc := 55) B Br dX9_get_55 ⟨congrArg (fun z => some (aI z)) ?_, ?_⟩
        · unfold vGet; repeat (first | rw [if_pos (by omega)] | rw [if_neg (by omega)])
        · unfold sGet mee; repeat (first | rw [if_pos (by omega)] | rw [if_neg (by omega)])
          first | exact ⟨bs_ms H0 _ _ _, co_ms (co_rfl M) (by decide)⟩ | exact ⟨H0, co_rfl M⟩
      · refine rr_aload0 (pc := 34) B dX9_get_34 ?_
        refine rr_iload4 (pc := 35) B dX9_get_35 ?_
        refine rr_putI (pc := 37) B dX9_get_37 fl_9_274 ob_9_38 fi_9_38 (by have := lkV_r S s f i; omega) ?_
        refine rr_ldcw (z := (-2147483648)) (pc := 40) B dX9_get_40 cn_9_285 (by decide) ?_
        refine rr_ireturn (pc := 43) B Br dX9_get_43 ⟨congrArg (fun z => some (aI z)) ?_, ?_⟩
        · unfold vGet; repeat (first | rw [if_pos (by omega)] | rw [if_neg (by omega)])
        · unfold sGet mee; repeat (first | rw [if_pos (by omega)] | rw [if_neg (by omega)])
          first | exact ⟨bs_ms H0 _ _ _, co_ms (co_rfl M) (by decide)⟩ | exact ⟨H0, co_rfl M⟩
    · replace b2 := of_decide_eq_false b2
      refine rr_ldcw (z := (-2147483648)) (pc := 16) B dX9_get_16 cn_9_285 (by decide) ?_
      refine rr_ireturn (pc := 19) B Br dX9_get_19 ⟨congrArg (fun z => some (aI z)) ?_, ?_⟩
      · unfold vGet; repeat (first | rw [if_pos (by omega)] | rw [if_neg (by omega)])
      · unfold sGet mee; repeat (first | rw [if_pos (by omega)] | rw [if_neg (by omega)])
        first | exact ⟨bs_ms H0 _ _ _, co_ms (co_rfl M) (by decide)⟩ | exact ⟨H0, co_rfl M⟩
set_option maxHeartbeats 4000000 in
set_option maxRecDepth 100000 in
theorem ct_X9_read (g : ax_G) (M : ax_M) (s : Int) (S : ax_M) (H0 : bs S M) (H1 : SI S) (H2 : -2147483648 ≤ s ∧ s ≤ 2147483647) : CT g md_X9_read 2 [aR 9, aI s] M (pIR (vRead S s) (fun M2 => bs (sRead S s) M2 ∧ co M M2)) := by
  refine ct_intro 1 rfl rfl ?_
  intro X hg B Br
  subst hg
  show AW X 0 [some (aR 9), some (aI s), none] [] M
  refine rr_rg (fun G0 => ?_)
  have HB := H0
  have L : ∀ nn : Nat, (∀ (M1 : ax_M) (n1 : Int), (0 ≤ n1 ∧ n1 ≤ 8) → (bs (rdS S s n1) M1) → (co M M1) → (∀ h, 0 ≤ h → h < n1 → rdOk S s h = true) → (0 ≤ s ∧ s ≤ 3) → (S 70 s ≠ 0) → ((8 - n1).toNat) < nn → AW X 27 [some (aR 9), some (aI s), some (aI n1)] [] M1) ∧ True := by
    intro nn
    induction nn with
    | zero => exact ⟨by intros; omega, trivial⟩
    | succ nn ih =>
      refine ⟨?_, trivial⟩
      · intro M1 n1 K0 K1 K2 K3 K4 K5 hm
        refine rr_rg (fun G1 => ?_)
        refine rr_iload2 (pc := 27) B dX9_read_27 ?_
        refine rr_aload0 (pc := 28) B dX9_read_28 ?_
        refine rr_getR (pc := 29) B dX9_read_29 fl_9_92 or_9_35 ?_
        refine rr_iload1 (pc := 32) B dX9_read_32 ?_
        refine rr_ialoadE (pc := 33) B dX9_read_33 sa_72 (by omega) ((K1 72 _ rfl).trans (congrFun (rdS_ne K0.1 (by decide)) _)) (fun b1 => ?_)
        refine rr_icmp_ge 85 (pc := 34) B dX9_read_34 (by decide) (by omega) (fun b2 => ?_) (fun b2 => ?_)
        · refine rr_iload2 (pc := 85) B dX9_read_85 ?_
          refine rr_ireturn (pc := 86) B Br dX9_read_86 ⟨congrArg (fun z => some (aI z)) ?_, ?_⟩
          · unfold vRead; rw [if_pos K4, if_neg K5, rdN_eq K0.1 K0.2 K3 (by first | (left; omega) | (right; exact rdOk_f (by omega)))]
          · unfold sRead; rw [if_pos K4, if_neg K5, rdN_eq K0.1 K0.2 K3 (by first | (left; omega) | (right; exact rdOk_f (by omega)))]; exact ⟨K1, K2⟩
        · refine rr_iload2 (pc := 37) B dX9_read_37 ?_
          refine rr_bipush (z := 8) (pc := 38) B dX9_read_38 (by decide) ?_
          refine rr_icmp_ge 85 (pc := 40) B dX9_read_40 (by decide) (by omega) (fun b3 => ?_) (fun b3 => ?_)
          · refine rr_iload2 (pc := 85) B dX9_read_85 ?_
            refine rr_ireturn (pc := 86) B Br dX9_read_86 ⟨congrArg (fun z => some (aI z)) ?_, ?_⟩
            · unfold vRead; rw [if_pos K4, if_neg K5, rdN_eq K0.1 K0.2 K3 (by first | (left; omega) | (right; exact rdOk_f (by omega)))]
            · unfold sRead; rw [if_pos K4, if_neg K5, rdN_eq K0.1 K0.2 K3 (by first | (left; omega) | (right; exact rdOk_f (by omega)))]; exact ⟨K1, K2⟩
          · refine rr_aload0 (pc := 43) B dX9_read_43 ?_
            refine rr_getR (pc := 44) B dX9_read_44 fl_9_95 or_9_36 ?_
            refine rr_bipush (z := 60) (pc := 47) B dX9_read_47 (by decide) ?_
            refine rr_iload1 (pc := 49) B dX9_read_49 ?_
            refine rr_imul (pc := 50) B dX9_read_50 ?_
            refine rr_iload2 (pc := 51) B dX9_read_51 ?_
            refine rr_iadd (pc := 52) B dX9_read_52 ?_
            refine rr_ialoadE (pc := 53) B dX9_read_53 sa_73 (by omega) ((K1 73 _ rfl).trans (congrFun (rdS_ne K0.1 (by decide)) _)) (fun b4 => ?_)
            refine rr_iconst (z := 0) (pc := 54) B dX9_read_54 ?_
            refine rr_iconst (z := 1) (pc := 55) B dX9_read_55 ?_
            refine rc_SI3 (pc := 56) B dX9_read_56 st_X9_in lk_9_103 (ct_X9_in _ _ _ _ _  (by omega)) (Nat.le_of_ble_eq_true rfl) (Nat.le_of_ble_eq_true rfl) ?_
            refine rr_if_eqB 85 (pc := 59) B dX9_read_59 (by decide) (fun b5 => ?_) (fun b5 => ?_)
            · replace b5 := of_decide_eq_false b5
              refine rr_iload2 (pc := 85) B dX9_read_85 ?_
              refine rr_ireturn (pc := 86) B Br dX9_read_86 ⟨congrArg (fun z => some (aI z)) ?_, ?_⟩
              · unfold vRead; rw [if_pos K4, if_neg K5, rdN_eq K0.1 K0.2 K3 (by first | (left; omega) | (right; exact rdOk_f (by omega)))]
              · unfold sRead; rw [if_pos K4, if_neg K5, rdN_eq K0.1 K0.2 K3 (by first | (left; omega) | (right; exact rdOk_f (by omega)))]; exact ⟨K1, K2⟩
            · replace b5 := of_decide_eq_true b5
              refine rr_aload0 (pc := 62) B dX9_read_62 ?_
              refine rr_getR (pc := 63) B dX9_read_63 fl_9_52 or_9_16 ?_
              refine rr_iload2 (pc := 66) B dX9_read_66 ?_
              refine rr_aload0 (pc := 67) B dX9_read_67 ?_
              refine rr_getR (pc := 68) B dX9_read_68 fl_9_95 or_9_36 ?_
              refine rr_bipush (z := 60) (pc := 71) B dX9_read_71 (by decide) ?_
              refine rr_iload1 (pc := 73) B dX9_read_73 ?_
              refine rr_imul (pc := 74) B dX9_read_74 ?_
              refine rr_iload2 (pc := 75) B dX9_read_75 ?_
              refine rr_iadd (pc := 76) B dX9_read_76 ?_
              refine rr_ialoadE (pc := 77) B dX9_read_77 sa_73 (by omega) ((K1 73 _ rfl).trans (congrFun (rdS_ne K0.1 (by decide)) _)) (fun b6 => ?_)
              refine rr_iastore (pc := 78) B dX9_read_78 sa_59 (by omega) (by omega) ?_
              refine rr_iinc2 (z := 1) (pc := 79) B dX9_read_79 rfl ?_
              refine rr_goto 27 (pc := 82) B dX9_read_82 (by decide) ?_
              refine ih.1 _ _ ?_ ?_ ?_ ?_ ?_ ?_ ?_
              · omega
              · rw [show rdS S s (n1 + 1) = ms (rdS S s n1) 59 n1 (S 73 (60 * s + n1)) from itI_s _ _ K0.1]; exact bs_ms K1 _ _ _
              · exact co_ms K2 (by decide)
              · intro h h0 h1
                rcases Int.lt_or_eq_of_le (show h ≤ n1 by omega) with q | q
                · exact K3 h h0 q
                · rw [q]; exact decide_eq_true (by omega)
              · first | assumption | omega
              · first | assumption | omega
              · omega
  refine rr_iload1 (pc := 0) B dX9_read_0 ?_
  refine rc_SI1 (pc := 1) B dX9_read_1 st_X9_isSheet lk_9_158 (ct_X9_isSheet _ _ _  (by omega)) (Nat.le_of_ble_eq_true rfl) (Nat.le_of_ble_eq_true rfl) ?_
  refine rr_if_neB 10 (pc := 4) B dX9_read_4 (by decide) (fun b1 => ?_) (fun b1 => ?_)
  · replace b1 := of_decide_eq_true b1
    refine rr_aload0 (pc := 10) B dX9_read_10 ?_
    refine rr_getR (pc := 11) B dX9_read_11 fl_9_85 or_9_33 ?_
    refine rr_iload1 (pc := 14) B dX9_read_14 ?_
    refine rr_zaloadE (pc := 15) B dX9_read_15 sa_70 (by omega) (HB 70 _ rfl) (fun b2 => ?_)
    refine rr_if_ne 25 (pc := 16) B dX9_read_16 (by decide) (by omega) (fun b3 => ?_) (fun b3 => ?_)
    · refine rr_iconst (z := 0) (pc := 25) B dX9_read_25 ?_
      refine rr_istore2 (pc := 26) B dX9_read_26 rfl ?_
      refine (L _).1 _ _ ?_ ?_ ?_ ?_ ?_ ?_ (Nat.lt_succ_self _)
      · omega
      · exact H0
      · exact co_rfl M
      · intro h h0 h1; omega
      · first | assumption | omega
      · first | assumption | omega
    · refine rr_aload0 (pc := 19) B dX9_read_19 ?_
      refine rr_iconst (z := 1) (pc := 20) B dX9_read_20 ?_
      refine rc_VI1 (pc := 21) B dX9_read_21 vm_X9_meets lk_9_161 so_9 rfl (ct_X9_meets _ _ _  (by omega)) (Nat.le_of_ble_eq_true rfl) (Nat.le_of_ble_eq_true rfl) ?_
      refine rr_ireturn (pc := 24) B Br dX9_read_24 ⟨congrArg (fun z => some (aI z)) ?_, ?_⟩
      · unfold vRead; repeat (first | rw [if_pos (by omega)] | rw [if_neg (by omega)])
      · unfold sRead mee; repeat (first | rw [if_pos (by omega)] | rw [if_neg (by omega)])
        first | exact ⟨bs_ms H0 _ _ _, co_ms (co_rfl M) (by decide)⟩ | exact ⟨H0, co_rfl M⟩
  · replace b1 := of_decide_eq_false b1
    refine rr_bipush (z := (-2)) (pc := 7) B dX9_read_7 (by decide) ?_
    refine rr_ireturn (pc := 9) B Br dX9_read_9 ⟨congrArg (fun z => some (aI z)) ?_, ?_⟩
    · unfold vRead; repeat (first | rw [if_pos (by omega)] | rw [if_neg (by omega)])
    · unfold sRead mee; repeat (first | rw [if_pos (by omega)] | rw [if_neg (by omega)])
      first | exact ⟨bs_ms H0 _ _ _, co_ms (co_rfl M) (by decide)⟩ | exact ⟨H0, co_rfl M⟩
set_option maxHeartbeats 4000000 in
set_option maxRecDepth 100000 in
theorem ct_X9_sheet (g : ax_G) (M : ax_M) (s f n : Int) (S : ax_M) (H0 : bs S M) (H1 : SI S) (H2 : -2147483648 ≤ s ∧ s ≤ 2147483647 ∧ -2147483648 ≤ f ∧ f ≤ 2147483647 ∧ -2147483648 ≤ n ∧ n ≤ 2147483647) : CT g md_X9_sheet 2 [aR 9, aI s, aI f, aI n] M (pIR (vSheet S s f n) (fun M2 => bs (sSheet S s f n) M2 ∧ co M M2)) := by
  refine ct_intro 1 rfl rfl ?_
  intro X hg B Br
  subst hg
  show AW X 0 [some (aR 9), some (aI s), some (aI f), some (aI n), none] [] M
  refine rr_rg (fun G0 => ?_)
  have HB := H0
  have L : ∀ nn : Nat, (∀ (M1 : ax_M) (i : Int), (0 ≤ i ∧ i ≤ 60) → (bs (zer (ms (ms (ms S 70 s 1) 71 s f) 72 s n) s i) M1) → (co M M1) → (((0 ≤ s ∧ s ≤ 3) ∧ (0 ≤ f ∧ f ≤ 2) ∧ n ≤ 60) ∧ 0 ≤ n) → ((60 - i).toNat) < nn → AW X 59 [some (aR 9), some (aI s), some (aI f), some (aI n), some (aI i)] [] M1) ∧ True := by
    intro nn
    induction nn with
    | zero => exact ⟨by intros; omega, trivial⟩
    | succ nn ih =>
      refine ⟨?_, trivial⟩
      · intro M1 i K0 K1 K2 K3 hm
        refine rr_rg (fun G1 => ?_)
        refine rr_iload4 (pc := 59) B dX9_sheet_59 ?_
        refine rr_bipush (z := 60) (pc := 61) B dX9_sheet_61 (by decide) ?_
        refine rr_icmp_ge 85 (pc := 63) B dX9_sheet_63 (by decide) (by omega) (fun b1 => ?_) (fun b1 => ?_)
        · refine rr_iload3 (pc := 85) B dX9_sheet_85 ?_
          refine rr_ireturn (pc := 86) B Br dX9_sheet_86 ⟨congrArg (fun z => some (aI z)) ?_, ?_⟩
          · unfold vSheet; repeat (first | rw [if_pos (by omega)] | rw [if_neg (by omega)])
          · unfold sSheet; rw [if_pos K3.1, if_neg (by omega), show (60 : Int) = i by omega]; exact ⟨K1, K2⟩
        · refine rr_aload0 (pc := 66) B dX9_sheet_66 ?_
          refine rr_getR (pc := 67) B dX9_sheet_67 fl_9_95 or_9_36 ?_
          refine rr_bipush (z := 60) (pc := 70) B dX9_sheet_70 (by decide) ?_
          refine rr_iload1 (pc := 72) B dX9_sheet_72 ?_
          refine rr_imul (pc := 73) B dX9_sheet_73 ?_
          refine rr_iload4 (pc := 74) B dX9_sheet_74 ?_
          refine rr_iadd (pc := 76) B dX9_sheet_76 ?_
          refine rr_iconst (z := 0) (pc := 77) B dX9_sheet_77 ?_
          refine rr_iastore (pc := 78) B dX9_sheet_78 sa_73 (by omega) (by omega) ?_
          refine rr_iinc4 (z := 1) (pc := 79) B dX9_sheet_79 rfl ?_
          refine rr_goto 59 (pc := 82) B dX9_sheet_82 (by decide) ?_
          refine ih.1 _ _ ?_ ?_ ?_ ?_ ?_
          · omega
          · rw [show zer (ms (ms (ms S 70 s 1) 71 s f) 72 s n) s (i + 1) = ms (zer (ms (ms (ms S 70 s 1) 71 s f) 72 s n) s i) 73 (60 * s + i) 0 from itI_s _ _ K0.1]; exact bs_ms K1 _ _ _
          · exact co_ms K2 (by decide)
          · first | assumption | omega
          · omega
  refine rr_iload1 (pc := 0) B dX9_sheet_0 ?_
  refine rc_SI1 (pc := 1) B dX9_sheet_1 st_X9_isSheet lk_9_158 (ct_X9_isSheet _ _ _  (by omega)) (Nat.le_of_ble_eq_true rfl) (Nat.le_of_ble_eq_true rfl) ?_
  refine rr_if_eqB 22 (pc := 4) B dX9_sheet_4 (by decide) (fun b1 => ?_) (fun b1 => ?_)
  · replace b1 := of_decide_eq_false b1
    refine rr_bipush (z := (-2)) (pc := 22) B dX9_sheet_22 (by decide) ?_
    refine rr_ireturn (pc := 24) B Br dX9_sheet_24 ⟨congrArg (fun z => some (aI z)) ?_, ?_⟩
    · unfold vSheet; repeat (first | rw [if_pos (by omega)] | rw [if_neg (by omega)])
    · unfold sSheet mee; repeat (first | rw [if_pos (by omega)] | rw [if_neg (by omega)])
      first | exact ⟨bs_ms H0 _ _ _, co_ms (co_rfl M) (by decide)⟩ | exact ⟨H0, co_rfl M⟩
  · replace b1 := of_decide_eq_true b1
    refine rr_iload2 (pc := 7) B dX9_sheet_7 ?_
    refine rr_iconst (z := 0) (pc := 8) B dX9_sheet_8 ?_
    refine rr_iconst (z := 2) (pc := 9) B dX9_sheet_9 ?_
    refine rc_SI3 (pc := 10) B dX9_sheet_10 st_X9_in lk_9_103 (ct_X9_in _ _ _ _ _  (by omega)) (Nat.le_of_ble_eq_true rfl) (Nat.le_of_ble_eq_true rfl) ?_
    refine rr_if_eqB 22 (pc := 13) B dX9_sheet_13 (by decide) (fun b2 => ?_) (fun b2 => ?_)
    · replace b2 := of_decide_eq_false b2
      refine rr_bipush (z := (-2)) (pc := 22) B dX9_sheet_22 (by decide) ?_
      refine rr_ireturn (pc := 24) B Br dX9_sheet_24 ⟨congrArg (fun z => some (aI z)) ?_, ?_⟩
      · unfold vSheet; repeat (first | rw [if_pos (by omega)] | rw [if_neg (by omega)])
      · unfold sSheet mee; repeat (first | rw [if_pos (by omega)] | rw [if_neg (by omega)])
        first | exact ⟨bs_ms H0 _ _ _, co_ms (co_rfl M) (by decide)⟩ | exact ⟨H0, co_rfl M⟩
    · replace b2 := of_decide_eq_true b2
      refine rr_iload3 (pc := 16) B dX9_sheet_16 ?_
      refine rr_bipush (z := 60) (pc := 17) B dX9_sheet_17 (by decide) ?_
      refine rr_icmp_le 25 (pc := 19) B dX9_sheet_19 (by decide) (by omega) (fun b3 => ?_) (fun b3 => ?_)
      · refine rr_iload3 (pc := 25) B dX9_sheet_25 ?_
        refine rr_if_ge 35 (pc := 26) B dX9_sheet_26 (by decide) (by omega) (fun b4 => ?_) (fun b4 => ?_)
        · refine rr_aload0 (pc := 35) B dX9_sheet_35 ?_
          refine rr_getR (pc := 36) B dX9_sheet_36 fl_9_85 or_9_33 ?_
          refine rr_iload1 (pc := 39) B dX9_sheet_39 ?_
          refine rr_iconst (z := 1) (pc := 40) B dX9_sheet_40 ?_
          refine rr_zastore (pc := 41) B dX9_sheet_41 sa_70 (by omega) (by omega) (by omega) ?_
          refine rr_aload0 (pc := 42) B dX9_sheet_42 ?_
          refine rr_getR (pc := 43) B dX9_sheet_43 fl_9_89 or_9_34 ?_
          refine rr_iload1 (pc := 46) B dX9_sheet_46 ?_
          refine rr_iload2 (pc := 47) B dX9_sheet_47 ?_
          refine rr_iastore (pc := 48) B dX9_sheet_48 sa_71 (by omega) (by omega) ?_
          refine rr_aload0 (pc := 49) B dX9_sheet_49 ?_
          refine rr_getR (pc := 50) B dX9_sheet_50 fl_9_92 or_9_35 ?_
          refine rr_iload1 (pc := 53) B dX9_sheet_53 ?_
          refine rr_iload3 (pc := 54) B dX9_sheet_54 ?_
          refine rr_iastore (pc := 55) B dX9_sheet_55 sa_72 (by omega) (by omega) ?_
          refine rr_iconst (z := 0) (pc := 56) B dX9_sheet_56 ?_
          refine rr_istore4 (pc := 57) B dX9_sheet_57 rfl ?_
          refine (L _).1 _ _ ?_ ?_ ?_ ?_ (Nat.lt_succ_self _)
          · omega
          · exact bs_ms (bs_ms (bs_ms H0 _ _ _) _ _ _) _ _ _
          · exact co_ms (co_ms (co_ms (co_rfl M) (by decide)) (by decide)) (by decide)
          · first | assumption | omega
        · refine rr_aload0 (pc := 29) B dX9_sheet_29 ?_
          refine rr_iconst (z := 5) (pc := 30) B dX9_sheet_30 ?_
          refine rc_VI1 (pc := 31) B dX9_sheet_31 vm_X9_meets lk_9_161 so_9 rfl (ct_X9_meets _ _ _  (by omega)) (Nat.le_of_ble_eq_true rfl) (Nat.le_of_ble_eq_true rfl) ?_
          refine rr_ireturn (pc := 34) B Br dX9_sheet_34 ⟨congrArg (fun z => some (aI z)) ?_, ?_⟩
          · unfold vSheet; repeat (first | rw [if_pos (by omega)] | rw [if_neg (by omega)])
          · unfold sSheet mee; repeat (first | rw [if_pos (by omega)] | rw [if_neg (by omega)])
            first | exact ⟨bs_ms H0 _ _ _, co_ms (co_rfl M) (by decide)⟩ | exact ⟨H0, co_rfl M⟩
      · refine rr_bipush (z := (-2)) (pc := 22) B dX9_sheet_22 (by decide) ?_
        refine rr_ireturn (pc := 24) B Br dX9_sheet_24 ⟨congrArg (fun z => some (aI z)) ?_, ?_⟩
        · unfold vSheet; repeat (first | rw [if_pos (by omega)] | rw [if_neg (by omega)])
        · unfold sSheet mee; repeat (first | rw [if_pos (by omega)] | rw [if_neg (by omega)])
          first | exact ⟨bs_ms H0 _ _ _, co_ms (co_rfl M) (by decide)⟩ | exact ⟨H0, co_rfl M⟩
set_option maxHeartbeats 4000000 in
set_option maxRecDepth 100000 in
theorem ct_X9_copy (g : ax_G) (M : ax_M) (s i t j n : Int) (S : ax_M) (H0 : bs S M) (H1 : SI S) (H2 : -2147483648 ≤ s ∧ s ≤ 2147483647 ∧ -2147483648 ≤ i ∧ i ≤ 2147483647 ∧ -2147483648 ≤ t ∧ t ≤ 2147483647 ∧ -2147483648 ≤ j ∧ j ≤ 2147483647 ∧ -2147483648 ≤ n ∧ n ≤ 2147483647) : CT g md_X9_copy 2 [aR 9, aI s, aI i, aI t, aI j, aI n] M (pIR (vCopy S s i t j n) (fun M2 => bs (sCopy S s i t j n) M2 ∧ co M M2)) := by
  refine ct_intro 1 rfl rfl ?_
  intro X hg B Br
  subst hg
  show AW X 0 [some (aR 9), some (aI s), some (aI i), some (aI t), some (aI j), some (aI n), none] [] M
  refine rr_rg (fun G0 => ?_)
  have HB := H0
  have L : ∀ nn : Nat, (∀ (M1 : ax_M) (k : Int), (0 ≤ k ∧ k ≤ n) → (bs S M1) → (co M M1) → (∀ q, 0 ≤ q → q < k → M1 74 q = S 73 (60 * s + i + q)) → (((0 ≤ s ∧ s ≤ 3) ∧ (0 ≤ t ∧ t ≤ 3)) ∧ cpF S s i t j n = 0 ∧ (0 ≤ i ∧ 0 ≤ j ∧ 0 ≤ n ∧ i + n ≤ 60 ∧ j + n ≤ 60)) → ((200 + n - k).toNat) < nn → AW X 120 [some (aR 9), some (aI s), some (aI i), some (aI t), some (aI j), some (aI n), some (aI k)] [] M1) ∧ (∀ (M1 : ax_M) (k : Int), (0 ≤ k ∧ k ≤ n) → (bs (mc S 73 (60 * s + i) 73 (60 * t + j) k) M1) → (co M M1) → (∀ q, 0 ≤ q → q < n → M1 74 q = S 73 (60 * s + i + q)) → (((0 ≤ s ∧ s ≤ 3) ∧ (0 ≤ t ∧ t ≤ 3)) ∧ cpF S s i t j n = 0 ∧ (0 ≤ i ∧ 0 ≤ j ∧ 0 ≤ n ∧ i + n ≤ 60 ∧ j + n ≤ 60)) → ((100 + n - k).toNat) < nn → AW X 157 [some (aR 9), some (aI s), some (aI i), some (aI t), some (aI j), some (aI n), some (aI k)] [] M1) ∧ True := by
    intro nn
    induction nn with
    | zero => exact ⟨by intros; omega, by intros; omega, trivial⟩
    | succ nn ih =>
      refine ⟨?_, ?_, trivial⟩
      · intro M1 k K0 K1 K2 K3 K4 hm
        refine rr_rg (fun G1 => ?_)
        refine rr_iload6 (pc := 120) B dX9_copy_120 ?_
        refine rr_iload5 (pc := 122) B dX9_copy_122 ?_
        refine rr_icmp_ge 154 (pc := 124) B dX9_copy_124 (by decide) (by omega) (fun b1 => ?_) (fun b1 => ?_)
        · refine rr_iconst (z := 0) (pc := 154) B dX9_copy_154 ?_
          refine rr_istore6 (pc := 155) B dX9_copy_155 rfl ?_
          refine ih.2.1 _ _ ?_ ?_ ?_ ?_ ?_ ?_
          · omega
          · rw [mc_0]; exact K1
          · exact K2
          · intro q h0 h1; exact K3 q h0 (by omega)
          · exact K4
          · omega
        · refine rr_aload0 (pc := 127) B dX9_copy_127 ?_
          refine rr_getR (pc := 128) B dX9_copy_128 fl_9_98 or_9_37 ?_
          refine rr_iload6 (pc := 131) B dX9_copy_131 ?_
          refine rr_aload0 (pc := 133) B dX9_copy_133 ?_
          refine rr_getR (pc := 134) B dX9_copy_134 fl_9_95 or_9_36 ?_
          refine rr_bipush (z := 60) (pc := 137) B dX9_copy_137 (by decide) ?_
          refine rr_iload1 (pc := 139) B dX9_copy_139 ?_
          refine rr_imul (pc := 140) B dX9_copy_140 ?_
          refine rr_iload2 (pc := 141) B dX9_copy_141 ?_
          refine rr_iadd (pc := 142) B dX9_copy_142 ?_
          refine rr_iload6 (pc := 143) B dX9_copy_143 ?_
          refine rr_iadd (pc := 145) B dX9_copy_145 ?_
          refine rr_ialoadE (pc := 146) B dX9_copy_146 sa_73 (by omega) (K1 73 _ rfl) (fun b2 => ?_)
          refine rr_iastore (pc := 147) B dX9_copy_147 sa_74 (by omega) (by omega) ?_
          refine rr_iinc6 (z := 1) (pc := 148) B dX9_copy_148 rfl ?_
          refine rr_goto 120 (pc := 151) B dX9_copy_151 (by decide) ?_
          refine ih.1 _ _ ?_ ?_ ?_ ?_ ?_ ?_
          · omega
          · exact bs_ms0 K1 (by simp [isB])
          · exact co_ms K2 (by decide)
          · intro q h0 h1
            by_cases e : q = k
            · subst e; exact ms_at _ _ _ _
            · rw [ms_off e]; exact K3 q h0 (by omega)
          · exact K4
          · omega
      · intro M1 k K0 K1 K2 K3 K4 hm
        refine rr_rg (fun G1 => ?_)
        refine rr_iload6 (pc := 157) B dX9_copy_157 ?_
        refine rr_iload5 (pc := 159) B dX9_copy_159 ?_
        refine rr_icmp_ge 192 (pc := 161) B dX9_copy_161 (by decide) (by omega) (fun b1 => ?_) (fun b1 => ?_)
        · refine rr_iconst (z := 1) (pc := 192) B dX9_copy_192 ?_
          refine rr_ireturn (pc := 193) B Br dX9_copy_193 ⟨congrArg (fun z => some (aI z)) ?_, ?_⟩
          · unfold vCopy; rw [if_pos K4.1, if_pos K4.2.1]
          · unfold sCopy; rw [if_pos K4.1, if_pos K4.2.1, show n = k by omega]; exact ⟨K1, K2⟩
        · refine rr_aload0 (pc := 164) B dX9_copy_164 ?_
          refine rr_getR (pc := 165) B dX9_copy_165 fl_9_95 or_9_36 ?_
          refine rr_bipush (z := 60) (pc := 168) B dX9_copy_168 (by decide) ?_
          refine rr_iload3 (pc := 170) B dX9_copy_170 ?_
          refine rr_imul (pc := 171) B dX9_copy_171 ?_
          refine rr_iload4 (pc := 172) B dX9_copy_172 ?_
          refine rr_iadd (pc := 174) B dX9_copy_174 ?_
          refine rr_iload6 (pc := 175) B dX9_copy_175 ?_
          refine rr_iadd (pc := 177) B dX9_copy_177 ?_
          refine rr_aload0 (pc := 178) B dX9_copy_178 ?_
          refine rr_getR (pc := 179) B dX9_copy_179 fl_9_98 or_9_37 ?_
          refine rr_iload6 (pc := 182) B dX9_copy_182 ?_
          refine rr_ialoadE (pc := 184) B dX9_copy_184 sa_74 (by omega) (K3 _ (by omega) (by omega)) (fun b2 => ?_)
          refine rr_iastore (pc := 185) B dX9_copy_185 sa_73 (by omega) (by have := G1.at (sa_74.2.2 k); rw [K3 k (by omega) (by omega)] at this; omega) ?_
          refine rr_iinc6 (z := 1) (pc := 186) B dX9_copy_186 rfl ?_
          refine rr_goto 157 (pc := 189) B dX9_copy_189 (by decide) ?_
          refine ih.2.1 _ _ ?_ ?_ ?_ ?_ ?_ ?_
          · omega
          · rw [mc_s K0.1]; exact bs_ms K1 _ _ _
          · exact co_ms K2 (by decide)
          · intro q h0 h1; exact K3 q h0 h1
          · exact K4
          · omega
  refine rr_iload1 (pc := 0) B dX9_copy_0 ?_
  refine rc_SI1 (pc := 1) B dX9_copy_1 st_X9_isSheet lk_9_158 (ct_X9_isSheet _ _ _  (by omega)) (Nat.le_of_ble_eq_true rfl) (Nat.le_of_ble_eq_true rfl) ?_
  refine rr_if_eqB 14 (pc := 4) B dX9_copy_4 (by decide) (fun b1 => ?_) (fun b1 => ?_)
  · replace b1 := of_decide_eq_false b1
    refine rr_bipush (z := (-2)) (pc := 14) B dX9_copy_14 (by decide) ?_
    refine rr_ireturn (pc := 16) B Br dX9_copy_16 ⟨congrArg (fun z => some (aI z)) ?_, ?_⟩
    · unfold vCopy cpF; repeat (first | rw [if_pos (by omega)] | rw [if_neg (by omega)])
    · unfold sCopy cpF mee; repeat (first | rw [if_pos (by omega)] | rw [if_neg (by omega)])
      first | exact ⟨bs_ms H0 _ _ _, co_ms (co_rfl M) (by decide)⟩ | exact ⟨H0, co_rfl M⟩
  · replace b1 := of_decide_eq_true b1
    refine rr_iload3 (pc := 7) B dX9_copy_7 ?_
    refine rc_SI1 (pc := 8) B dX9_copy_8 st_X9_isSheet lk_9_158 (ct_X9_isSheet _ _ _  (by omega)) (Nat.le_of_ble_eq_true rfl) (Nat.le_of_ble_eq_true rfl) ?_
    refine rr_if_neB 17 (pc := 11) B dX9_copy_11 (by decide) (fun b2 => ?_) (fun b2 => ?_)
    · replace b2 := of_decide_eq_true b2
      refine rr_aload0 (pc := 17) B dX9_copy_17 ?_
      refine rr_getR (pc := 18) B dX9_copy_18 fl_9_85 or_9_33 ?_
      refine rr_iload1 (pc := 21) B dX9_copy_21 ?_
      refine rr_zaloadE (pc := 22) B dX9_copy_22 sa_70 (by omega) (HB 70 _ rfl) (fun b3 => ?_)
      refine rr_if_eq 35 (pc := 23) B dX9_copy_23 (by decide) (by omega) (fun b4 => ?_) (fun b4 => ?_)
      · refine rr_aload0 (pc := 35) B dX9_copy_35 ?_
        refine rr_iconst (z := 1) (pc := 36) B dX9_copy_36 ?_
        refine rc_VI1 (pc := 37) B dX9_copy_37 vm_X9_meets lk_9_161 so_9 rfl (ct_X9_meets _ _ _  (by omega)) (Nat.le_of_ble_eq_true rfl) (Nat.le_of_ble_eq_true rfl) ?_
        refine rr_ireturn (pc := 40) B Br dX9_copy_40 ⟨congrArg (fun z => some (aI z)) ?_, ?_⟩
        · unfold vCopy cpF; repeat (first | rw [if_pos (by omega)] | rw [if_neg (by omega)])
        · unfold sCopy cpF mee; repeat (first | rw [if_pos (by omega)] | rw [if_neg (by omega)])
          first | exact ⟨bs_ms H0 _ _ _, co_ms (co_rfl M) (by decide)⟩ | exact ⟨H0, co_rfl M⟩
      · refine rr_aload0 (pc := 26) B dX9_copy_26 ?_
        refine rr_getR (pc := 27) B dX9_copy_27 fl_9_85 or_9_33 ?_
        refine rr_iload3 (pc := 30) B dX9_copy_30 ?_
        refine rr_zaloadE (pc := 31) B dX9_copy_31 sa_70 (by omega) (HB 70 _ rfl) (fun b5 => ?_)
        refine rr_if_ne 41 (pc := 32) B dX9_copy_32 (by decide) (by omega) (fun b6 => ?_) (fun b6 => ?_)
        · refine rr_aload0 (pc := 41) B dX9_copy_41 ?_
          refine rr_getR (pc := 42) B dX9_copy_42 fl_9_89 or_9_34 ?_
          refine rr_iload1 (pc := 45) B dX9_copy_45 ?_
          refine rr_ialoadE (pc := 46) B dX9_copy_46 sa_71 (by omega) (HB 71 _ rfl) (fun b7 => ?_)
          refine rr_aload0 (pc := 47) B dX9_copy_47 ?_
          refine rr_getR (pc := 48) B dX9_copy_48 fl_9_89 or_9_34 ?_
          refine rr_iload3 (pc := 51) B dX9_copy_51 ?_
          refine rr_ialoadE (pc := 52) B dX9_copy_52 sa_71 (by omega) (HB 71 _ rfl) (fun b8 => ?_)
          refine rr_icmp_eq 62 (pc := 53) B dX9_copy_53 (by decide) (by omega) (fun b9 => ?_) (fun b9 => ?_)
          · refine rr_iload2 (pc := 62) B dX9_copy_62 ?_
            refine rr_if_lt 111 (pc := 63) B dX9_copy_63 (by decide) (by omega) (fun b10 => ?_) (fun b10 => ?_)
            · refine rr_aload0 (pc := 111) B dX9_copy_111 ?_
              refine rr_iconst (z := 2) (pc := 112) B dX9_copy_112 ?_
              refine rc_VI1 (pc := 113) B dX9_copy_113 vm_X9_meets lk_9_161 so_9 rfl (ct_X9_meets _ _ _  (by omega)) (Nat.le_of_ble_eq_true rfl) (Nat.le_of_ble_eq_true rfl) ?_
              refine rr_ireturn (pc := 116) B Br dX9_copy_116 ⟨congrArg (fun z => some (aI z)) ?_, ?_⟩
              · unfold vCopy cpF; repeat (first | rw [if_pos (by omega)] | rw [if_neg (by omega)])
              · unfold sCopy cpF mee; repeat (first | rw [if_pos (by omega)] | rw [if_neg (by omega)])
                first | exact ⟨bs_ms H0 _ _ _, co_ms (co_rfl M) (by decide)⟩ | exact ⟨H0, co_rfl M⟩
            · refine rr_iload4 (pc := 66) B dX9_copy_66 ?_
              refine rr_if_lt 111 (pc := 68) B dX9_copy_68 (by decide) (by omega) (fun b11 => ?_) (fun b11 => ?_)
              · refine rr_aload0 (pc := 111) B dX9_copy_111 ?_
                refine rr_iconst (z := 2) (pc := 112) B dX9_copy_112 ?_
                refine rc_VI1 (pc := 113) B dX9_copy_113 vm_X9_meets lk_9_161 so_9 rfl (ct_X9_meets _ _ _  (by omega)) (Nat.le_of_ble_eq_true rfl) (Nat.le_of_ble_eq_true rfl) ?_
                refine rr_ireturn (pc := 116) B Br dX9_copy_116 ⟨congrArg (fun z => some (aI z)) ?_, ?_⟩
                · unfold vCopy cpF; repeat (first | rw [if_pos (by omega)] | rw [if_neg (by omega)])
                · unfold sCopy cpF mee; repeat (first | rw [if_pos (by omega)] | rw [if_neg (by omega)])
                  first | exact ⟨bs_ms H0 _ _ _, co_ms (co_rfl M) (by decide)⟩ | exact ⟨H0, co_rfl M⟩
              · refine rr_iload5 (pc := 71) B dX9_copy_71 ?_
                refine rr_if_lt 111 (pc := 73) B dX9_copy_73 (by decide) (by omega) (fun b12 => ?_) (fun b12 => ?_)
                · refine rr_aload0 (pc := 111) B dX9_copy_111 ?_
                  refine rr_iconst (z := 2) (pc := 112) B dX9_copy_112 ?_
                  refine rc_VI1 (pc := 113) B dX9_copy_113 vm_X9_meets lk_9_161 so_9 rfl (ct_X9_meets _ _ _  (by omega)) (Nat.le_of_ble_eq_true rfl) (Nat.le_of_ble_eq_true rfl) ?_
                  refine rr_ireturn (pc := 116) B Br dX9_copy_116 ⟨congrArg (fun z => some (aI z)) ?_, ?_⟩
                  · unfold vCopy cpF; repeat (first | rw [if_pos (by omega)] | rw [if_neg (by omega)])
                  · unfold sCopy cpF mee; repeat (first | rw [if_pos (by omega)] | rw [if_neg (by omega)])
                    first | exact ⟨bs_ms H0 _ _ _, co_ms (co_rfl M) (by decide)⟩ | exact ⟨H0, co_rfl M⟩
                · refine rr_iload2 (pc := 76) B dX9_copy_76 ?_
                  refine rr_i2l (pc := 77) B dX9_copy_77 (by omega) ?_
                  refine rr_iload5 (pc := 78) B dX9_copy_78 ?_
                  refine rr_i2l (pc := 80) B dX9_copy_80 (by omega) ?_
                  refine rr_ladd (pc := 81) B dX9_copy_81 ?_
                  refine rr_aload0 (pc := 82) B dX9_copy_82 ?_
                  refine rr_getR (pc := 83) B dX9_copy_83 fl_9_92 or_9_35 ?_
                  refine rr_iload1 (pc := 86) B dX9_copy_86 ?_
                  refine rr_ialoadE (pc := 87) B dX9_copy_87 sa_72 (by omega) (HB 72 _ rfl) (fun b13 => ?_)
                  refine rr_i2l (pc := 88) B dX9_copy_88 (by omega) ?_
                  refine rr_lcmp_gt 111 (pc := 89) B dX9_copy_89 dX9_copy_90 (by decide) (by omega) (fun b14 => ?_) (fun b14 => ?_)
                  · refine rr_aload0 (pc := 111) B dX9_copy_111 ?_
                    refine rr_iconst (z := 2) (pc := 112) B dX9_copy_112 ?_
                    refine rc_VI1 (pc := 113) B dX9_copy_113 vm_X9_meets lk_9_161 so_9 rfl (ct_X9_meets _ _ _  (by omega)) (Nat.le_of_ble_eq_true rfl) (Nat.le_of_ble_eq_true rfl) ?_
                    refine rr_ireturn (pc := 116) B Br dX9_copy_116 ⟨congrArg (fun z => some (aI z)) ?_, ?_⟩
                    · unfold vCopy cpF; repeat (first | rw [if_pos (by omega)] | rw [if_neg (by omega)])
                    · unfold sCopy cpF mee; repeat (first | rw [if_pos (by omega)] | rw [if_neg (by omega)])
                      first | exact ⟨bs_ms H0 _ _ _, co_ms (co_rfl M) (by decide)⟩ | exact ⟨H0, co_rfl M⟩
                  · refine rr_iload4 (pc := 93) B dX9_copy_93 ?_
                    refine rr_i2l (pc := 95) B dX9_copy_95 (by omega) ?_
                    refine rr_iload5 (pc := 96) B dX9_copy_96 ?_
                    refine rr_i2l (pc := 98) B dX9_copy_98 (by omega) ?_
                    refine rr_ladd (pc := 99) B dX9_copy_99 ?_
                    refine rr_aload0 (pc := 100) B dX9_copy_100 ?_
                    refine rr_getR (pc := 101) B dX9_copy_101 fl_9_92 or_9_35 ?_
                    refine rr_iload3 (pc := 104) B dX9_copy_104 ?_
                    refine rr_ialoadE (pc := 105) B dX9_copy_105 sa_72 (by omega) (HB 72 _ rfl) (fun b15 => ?_)
                    refine rr_i2l (pc := 106) B dX9_copy_106 (by omega) ?_
                    refine rr_lcmp_le 117 (pc := 107) B dX9_copy_107 dX9_copy_108 (by decide) (by omega) (fun b16 => ?_) (fun b16 => ?_)
                    · refine rr_iconst (z := 0) (pc := 117) B dX9_copy_117 ?_
                      refine rr_istore6 (pc := 118) B dX9_copy_118 rfl ?_
                      refine (L _).1 _ _ ?_ ?_ ?_ ?_ ?_ (Nat.lt_succ_self _)
                      · omega
                      · exact H0
                      · exact co_rfl M
                      · intro q h0 h1; omega
                      · exact ⟨⟨by assumption, by assumption⟩, by (unfold cpF; repeat (first | rw [if_pos (by omega)] | rw [if_neg (by omega)])), by omega⟩
                    · refine rr_aload0 (pc := 111) B dX9_copy_111 ?_
                      refine rr_iconst (z := 2) (pc := 112) B dX9_copy_112 ?_
                      refine rc_VI1 (pc := 113) B dX9_copy_113 vm_X9_meets lk_9_161 so_9 rfl (ct_X9_meets _ _ _  (by omega)) (Nat.le_of_ble_eq_true rfl) (Nat.le_of_ble_eq_true rfl) ?_
                      refine rr_ireturn (pc := 116) B Br dX9_copy_116 ⟨congrArg (fun z => some (aI z)) ?_, ?_⟩
                      · unfold vCopy cpF; repeat (first | rw [if_pos (by omega)] | rw [if_neg (by omega)])
                      · unfold sCopy cpF mee; repeat (first | rw [if_pos (by omega)] | rw [if_neg (by omega)])
                        first | exact ⟨bs_ms H0 _ _ _, co_ms (co_rfl M) (by decide)⟩ | exact ⟨H0, co_rfl M⟩
          · refine rr_aload0 (pc := 56) B dX9_copy_56 ?_
            refine rr_iconst (z := 4) (pc := 57) B dX9_copy_57 ?_
            refine rc_VI1 (pc := 58) B dX9_copy_58 vm_X9_meets lk_9_161 so_9 rfl (ct_X9_meets _ _ _  (by omega)) (Nat.le_of_ble_eq_true rfl) (Nat.le_of_ble_eq_true rfl) ?_
            refine rr_ireturn (pc := 61) B Br dX9_copy_61 ⟨congrArg (fun z => some (aI z)) ?_, ?_⟩
            · unfold vCopy cpF; repeat (first | rw [if_pos (by omega)] | rw [if_neg (by omega)])
            · unfold sCopy cpF mee; repeat (first | rw [if_pos (by omega)] | rw [if_neg (by omega)])
              first | exact ⟨bs_ms H0 _ _ _, co_ms (co_rfl M) (by decide)⟩ | exact ⟨H0, co_rfl M⟩
        · refine rr_aload0 (pc := 35) B dX9_copy_35 ?_
          refine rr_iconst (z := 1) (pc := 36) B dX9_copy_36 ?_
          refine rc_VI1 (pc := 37) B dX9_copy_37 vm_X9_meets lk_9_161 so_9 rfl (ct_X9_meets _ _ _  (by omega)) (Nat.le_of_ble_eq_true rfl) (Nat.le_of_ble_eq_true rfl) ?_
          refine rr_ireturn (pc := 40) B Br dX9_copy_40 ⟨congrArg (fun z => some (aI z)) ?_, ?_⟩
          · unfold vCopy cpF; repeat (first | rw [if_pos (by omega)] | rw [if_neg (by omega)])
          · unfold sCopy cpF mee; repeat (first | rw [if_pos (by omega)] | rw [if_neg (by omega)])
            first | exact ⟨bs_ms H0 _ _ _, co_ms (co_rfl M) (by decide)⟩ | exact ⟨H0, co_rfl M⟩
    · replace b2 := of_decide_eq_false b2
      refine rr_bipush (z := (-2)) (pc := 14) B dX9_copy_14 (by decide) ?_
      refine rr_ireturn (pc := 16) B Br dX9_copy_16 ⟨congrArg (fun z => some (aI z)) ?_, ?_⟩
      · unfold vCopy cpF; repeat (first | rw [if_pos (by omega)] | rw [if_neg (by omega)])
      · unfold sCopy cpF mee; repeat (first | rw [if_pos (by omega)] | rw [if_neg (by omega)])
        first | exact ⟨bs_ms H0 _ _ _, co_ms (co_rfl M) (by decide)⟩ | exact ⟨H0, co_rfl M⟩
set_option maxHeartbeats 4000000 in
set_option maxRecDepth 100000 in
theorem ct_X9_planOf (g : ax_G) (M : ax_M) (s w : Int) (S : ax_M) (H0 : bs S M) (H1 : 0 ≤ s ∧ s ≤ 3) (H2 : 0 ≤ w ∧ w ≤ 2) : CT g md_X9_planOf 5 [aR 9, aI s, aI w] M (pIR (plO S s w) (fun M2 => rdM S M2 ∧ frm exP M M2)) := by
  refine ct_intro 3 rfl rfl ?_
  intro X hg B Br
  subst hg
  show AW X 0 [some (aR 9), some (aI s), some (aI w), none, none, none] [] M
  refine rr_rg (fun G0 => ?_)
  have L : ∀ nn : Nat, (∀ (M1 : ax_M) (a d : Int), (rdM S M1) → (frm exP M M1) → (0 ≤ d ∧ d ≤ vw S 9 2) → (a = itI (fun d a => a + if S 73 (60 * s + d) = -1 then 0 else vw S 50 d) 0 d) → (vw S 9 2 ≤ S 72 s) → (w ≠ 0) → (0 ≤ a ∧ a ≤ 9 * d) → ((8 - d).toNat) < nn → AW X 48 [some (aR 9), some (aI s), some (aI w), some (aI (pcV (vw S) s)), some (aI a), some (aI d)] [] M1) ∧ True := by
    intro nn
    induction nn with
    | zero => exact ⟨by intros; omega, trivial⟩
    | succ nn ih =>
      refine ⟨?_, trivial⟩
      · intro M1 a d K0 K1 K2 K3 K4 K5 K6 hm
        refine rr_rg (fun G1 => ?_)
        have N8 : 0 ≤ vw S 9 2 ∧ vw S 9 2 ≤ 8 := by have := G1.at ob_9_2.2.1; rw [K0.1 9 2 (Or.inl rfl)] at this; exact this
        have PC := pcV_r (V := vw S) (s := s) N8 (fun p h0 h1 => by have := G1.at (sa_57.2.2 p); rw [K0.1 57 p trivial] at this; exact this) (by have := G1.at (sa_60.2.2 0); rw [K0.1 60 0 trivial] at this; exact this)
        refine rr_iload5 (pc := 48) B dX9_planOf_48 ?_
        refine rr_aload0 (pc := 50) B dX9_planOf_50 ?_
        refine rr_getIE (pc := 51) B dX9_planOf_51 fl_9_107 ob_9_2 (K0.1 9 _ (Or.inl rfl)) (fun b1 => ?_)
        refine rr_icmp_ge 95 (pc := 54) B dX9_planOf_54 (by decide) (by omega) (fun b2 => ?_) (fun b2 => ?_)
        · refine rr_iload3 (pc := 95) B dX9_planOf_95 ?_
          refine rr_bipush (z := (-3)) (pc := 96) B dX9_planOf_96 (by decide) ?_
          refine rr_icmp_ne 106 (pc := 98) B dX9_planOf_98 (by decide) (by omega) (fun b3 => ?_) (fun b3 => ?_)
          · refine rr_iload2 (pc := 106) B dX9_planOf_106 ?_
            refine rr_iconst (z := 1) (pc := 107) B dX9_planOf_107 ?_
            refine rr_icmp_ne 116 (pc := 108) B dX9_planOf_108 (by decide) (by omega) (fun b4 => ?_) (fun b4 => ?_)
            · refine rr_iload3 (pc := 116) B dX9_planOf_116 ?_
              refine rr_ireturn (pc := 117) B Br dX9_planOf_117 ⟨congrArg (fun z => some (aI z)) ?_, ?_⟩
              · unfold plO; repeat (first | rw [if_pos (by omega)] | rw [if_neg (by omega)])
                try (rw [K3, show d = vw S 9 2 by omega]; done)
              · first | exact b1 | exact ⟨K0, K1⟩
            · refine rr_iload4 (pc := 111) B dX9_planOf_111 ?_
              refine rr_goto 117 (pc := 113) B dX9_planOf_113 (by decide) ?_
              refine rr_ireturn (pc := 117) B Br dX9_planOf_117 ⟨congrArg (fun z => some (aI z)) ?_, ?_⟩
              · unfold plO; repeat (first | rw [if_pos (by omega)] | rw [if_neg (by omega)])
                try (rw [K3, show d = vw S 9 2 by omega]; done)
              · first | exact b1 | exact ⟨K0, K1⟩
          · refine rr_bipush (z := (-3)) (pc := 101) B dX9_planOf_101 (by decide) ?_
            refine rr_goto 117 (pc := 103) B dX9_planOf_103 (by decide) ?_
            refine rr_ireturn (pc := 117) B Br dX9_planOf_117 ⟨congrArg (fun z => some (aI z)) ?_, ?_⟩
            · unfold plO; repeat (first | rw [if_pos (by omega)] | rw [if_neg (by omega)])
              try (rw [K3, show d = vw S 9 2 by omega]; done)
            · first | exact b1 | exact ⟨K0, K1⟩
        · refine rr_iload4 (pc := 57) B dX9_planOf_57 ?_
          refine rr_aload0 (pc := 59) B dX9_planOf_59 ?_
          refine rr_getR (pc := 60) B dX9_planOf_60 fl_9_95 or_9_36 ?_
          refine rr_bipush (z := 60) (pc := 63) B dX9_planOf_63 (by decide) ?_
          refine rr_iload1 (pc := 65) B dX9_planOf_65 ?_
          refine rr_imul (pc := 66) B dX9_planOf_66 ?_
          refine rr_iload5 (pc := 67) B dX9_planOf_67 ?_
          refine rr_iadd (pc := 69) B dX9_planOf_69 ?_
          refine rr_ialoadE (pc := 70) B dX9_planOf_70 sa_73 (by omega) (K0.2.1 73 _ rfl) (fun b3 => ?_)
          refine rr_iconst (z := (-1)) (pc := 71) B dX9_planOf_71 ?_
          refine rr_icmp_ne 79 (pc := 72) B dX9_planOf_72 (by decide) (by omega) (fun b4 => ?_) (fun b4 => ?_)
          · refine rr_aload0 (pc := 79) B dX9_planOf_79 ?_
            refine rr_getR (pc := 80) B dX9_planOf_80 fl_9_25 or_9_6 ?_
            refine rr_iload5 (pc := 83) B dX9_planOf_83 ?_
            refine rr_ialoadE (pc := 85) B dX9_planOf_85 sa_50 (by omega) (K0.1 50 _ ⟨by omega, by omega⟩) (fun b5 => ?_)
            refine rr_iadd (pc := 86) B dX9_planOf_86 ?_
            refine rr_istore4 (pc := 87) B dX9_planOf_87 rfl ?_
            refine rr_iinc5 (z := 1) (pc := 89) B dX9_planOf_89 rfl ?_
            refine rr_goto 48 (pc := 92) B dX9_planOf_92 (by decide) ?_
            refine ih.1 _ _ _ ?_ ?_ ?_ ?_ ?_ ?_ ?_ ?_
            · first | exact b1.1 | exact K0
            · first | exact b1.2 | exact K1
            · omega
            · rw [itI_s _ _ (by omega), ← K3]; first | (rw [if_pos (by omega)]; done) | (rw [if_neg (by omega)]; done)
            · assumption
            · assumption
            · omega
            · omega
          · refine rr_iconst (z := 0) (pc := 75) B dX9_planOf_75 ?_
            refine rr_goto 86 (pc := 76) B dX9_planOf_76 (by decide) ?_
            refine rr_iadd (pc := 86) B dX9_planOf_86 ?_
            refine rr_istore4 (pc := 87) B dX9_planOf_87 rfl ?_
            refine rr_iinc5 (z := 1) (pc := 89) B dX9_planOf_89 rfl ?_
            refine rr_goto 48 (pc := 92) B dX9_planOf_92 (by decide) ?_
            refine ih.1 _ _ _ ?_ ?_ ?_ ?_ ?_ ?_ ?_ ?_
            · first | exact b1.1 | exact K0
            · first | exact b1.2 | exact K1
            · omega
            · rw [itI_s _ _ (by omega), ← K3]; first | (rw [if_pos (by omega)]; done) | (rw [if_neg (by omega)]; done)
            · assumption
            · assumption
            · omega
            · omega
  refine rr_aload0 (pc := 0) B dX9_planOf_0 ?_
  refine rc_VVR0 (pc := 1) B dX9_planOf_1 vm_X9_reads lk_9_139 so_9 rfl (ct_X9_reads _ _  _ (by exact H0)) (Nat.le_of_ble_eq_true rfl) (Nat.le_of_ble_eq_true rfl) (fun Mb1 b1 => ?_)
  refine rr_rg (fun G1 => ?_)
  have N8 : 0 ≤ vw S 9 2 ∧ vw S 9 2 ≤ 8 := by have := G1.at ob_9_2.2.1; rw [b1.1.1 9 2 (Or.inl rfl)] at this; exact this
  have P8 : 1 ≤ p2 (vw S 9 2) ∧ p2 (vw S 9 2) ≤ 256 := ⟨p2_pos _, by have q2 := p2_le (a := vw S 9 2) (b := 8) N8.2; have q3 : p2 8 = 256 := rfl; omega⟩
  refine rr_aload0 (pc := 4) B dX9_planOf_4 ?_
  refine rr_getR (pc := 5) B dX9_planOf_5 fl_9_92 or_9_35 ?_
  refine rr_iload1 (pc := 8) B dX9_planOf_8 ?_
  refine rr_ialoadE (pc := 9) B dX9_planOf_9 sa_72 (by omega) (b1.1.2.1 72 _ rfl) (fun b2 => ?_)
  refine rr_aload0 (pc := 10) B dX9_planOf_10 ?_
  refine rr_getIE (pc := 11) B dX9_planOf_11 fl_9_107 ob_9_2 (b1.1.1 9 _ (Or.inl rfl)) (fun b3 => ?_)
  refine rr_icmp_ge 20 (pc := 14) B dX9_planOf_14 (by decide) (by omega) (fun b4 => ?_) (fun b4 => ?_)
  · refine rr_aload0 (pc := 20) B dX9_planOf_20 ?_
    refine rr_iload1 (pc := 21) B dX9_planOf_21 ?_
    refine rc_VI1 (pc := 22) B dX9_planOf_22 vm_X9_planCostOf lk_9_214 so_9 rfl (ct_X9_planCostOf _ _ _ (vw S) (b1.1.1) (by omega)) (Nat.le_of_ble_eq_true rfl) (Nat.le_of_ble_eq_true rfl) ?_
    refine rr_istore3 (pc := 25) B dX9_planOf_25 rfl ?_
    refine rr_iload2 (pc := 26) B dX9_planOf_26 ?_
    refine rr_if_ne 42 (pc := 27) B dX9_planOf_27 (by decide) (by omega) (fun b5 => ?_) (fun b5 => ?_)
    · refine rr_iconst (z := 0) (pc := 42) B dX9_planOf_42 ?_
      refine rr_istore4 (pc := 43) B dX9_planOf_43 rfl ?_
      refine rr_iconst (z := 0) (pc := 45) B dX9_planOf_45 ?_
      refine rr_istore5 (pc := 46) B dX9_planOf_46 rfl ?_
      refine (L _).1 _ _ _ ?_ ?_ ?_ ?_ ?_ ?_ ?_ (Nat.lt_succ_self _)
      · first | exact b1.1 | exact K0
      · first | exact b1.2 | exact K1
      · refine ⟨by omega, ?_⟩; exact N8.1
      · rfl
      · assumption
      · assumption
      · omega
    · refine rr_iload3 (pc := 30) B dX9_planOf_30 ?_
      refine rr_bipush (z := (-3)) (pc := 31) B dX9_planOf_31 (by decide) ?_
      refine rr_icmp_ne 40 (pc := 33) B dX9_planOf_33 (by decide) (by have PC := pcV_r (V := vw S) (s := s) N8 (fun p h0 h1 => by have := G1.at (sa_57.2.2 p); rw [b1.1.1 57 p trivial] at this; exact this) (by have := G1.at (sa_60.2.2 0); rw [b1.1.1 60 0 trivial] at this; exact this); omega) (fun b6 => ?_) (fun b6 => ?_)
      · refine rr_iconst (z := 1) (pc := 40) B dX9_planOf_40 ?_
        refine rr_ireturn (pc := 41) B Br dX9_planOf_41 ⟨congrArg (fun z => some (aI z)) ?_, ?_⟩
        · unfold plO; repeat (first | rw [if_pos (by omega)] | rw [if_neg (by omega)])
          try (rw [K3, show d = vw S 9 2 by omega]; done)
        · first | exact b1 | exact ⟨K0, K1⟩
      · refine rr_iconst (z := 0) (pc := 36) B dX9_planOf_36 ?_
        refine rr_goto 41 (pc := 37) B dX9_planOf_37 (by decide) ?_
        refine rr_ireturn (pc := 41) B Br dX9_planOf_41 ⟨congrArg (fun z => some (aI z)) ?_, ?_⟩
        · unfold plO; repeat (first | rw [if_pos (by omega)] | rw [if_neg (by omega)])
          try (rw [K3, show d = vw S 9 2 by omega]; done)
        · first | exact b1 | exact ⟨K0, K1⟩
  · refine rr_bipush (z := (-3)) (pc := 17) B dX9_planOf_17 (by decide) ?_
    refine rr_ireturn (pc := 19) B Br dX9_planOf_19 ⟨congrArg (fun z => some (aI z)) ?_, ?_⟩
    · unfold plO; repeat (first | rw [if_pos (by omega)] | rw [if_neg (by omega)])
      try (rw [K3, show d = vw S 9 2 by omega]; done)
    · first | exact b1 | exact ⟨K0, K1⟩
set_option maxHeartbeats 4000000 in
set_option maxRecDepth 100000 in
theorem ct_X9_plan (g : ax_G) (M : ax_M) (s w : Int) (S : ax_M) (H0 : bs S M) (H1 : SI S) (H2 : -2147483648 ≤ s ∧ s ≤ 2147483647 ∧ -2147483648 ≤ w ∧ w ≤ 2147483647) : CT g md_X9_plan 6 [aR 9, aI s, aI w] M (pIR (vPlan S s w) (fun M2 => bs (sPlan S s w) M2 ∧ co M M2)) := by
  refine ct_intro 0 rfl rfl ?_
  intro X hg B Br
  subst hg
  show AW X 0 [some (aR 9), some (aI s), some (aI w)] [] M
  refine rr_rg (fun G0 => ?_)
  have HB := H0
  refine rr_iload1 (pc := 0) B dX9_plan_0 ?_
  refine rc_SI1 (pc := 1) B dX9_plan_1 st_X9_isSheet lk_9_158 (ct_X9_isSheet _ _ _  (by omega)) (Nat.le_of_ble_eq_true rfl) (Nat.le_of_ble_eq_true rfl) ?_
  refine rr_if_eqB 16 (pc := 4) B dX9_plan_4 (by decide) (fun b1 => ?_) (fun b1 => ?_)
  · replace b1 := of_decide_eq_false b1
    refine rr_bipush (z := (-2)) (pc := 16) B dX9_plan_16 (by decide) ?_
    refine rr_ireturn (pc := 18) B Br dX9_plan_18 ⟨congrArg (fun z => some (aI z)) ?_, ?_⟩
    · unfold vPlan; repeat (first | rw [if_pos (by omega)] | rw [if_neg (by omega)])
    · unfold sPlan mee; repeat (first | rw [if_pos (by omega)] | rw [if_neg (by omega)])
      first | exact ⟨bs_ms H0 _ _ _, co_ms (co_rfl M) (by decide)⟩ | exact ⟨H0, co_rfl M⟩ | exact ⟨b5.1.2.1, co_P b5.2⟩
  · replace b1 := of_decide_eq_true b1
    refine rr_iload2 (pc := 7) B dX9_plan_7 ?_
    refine rr_iconst (z := 0) (pc := 8) B dX9_plan_8 ?_
    refine rr_iconst (z := 2) (pc := 9) B dX9_plan_9 ?_
    refine rc_SI3 (pc := 10) B dX9_plan_10 st_X9_in lk_9_103 (ct_X9_in _ _ _ _ _  (by omega)) (Nat.le_of_ble_eq_true rfl) (Nat.le_of_ble_eq_true rfl) ?_
    refine rr_if_neB 19 (pc := 13) B dX9_plan_13 (by decide) (fun b2 => ?_) (fun b2 => ?_)
    · replace b2 := of_decide_eq_true b2
      refine rr_aload0 (pc := 19) B dX9_plan_19 ?_
      refine rr_getR (pc := 20) B dX9_plan_20 fl_9_85 or_9_33 ?_
      refine rr_iload1 (pc := 23) B dX9_plan_23 ?_
      refine rr_zaloadE (pc := 24) B dX9_plan_24 sa_70 (by omega) (HB 70 _ rfl) (fun b3 => ?_)
      refine rr_if_eq 37 (pc := 25) B dX9_plan_25 (by decide) (by omega) (fun b4 => ?_) (fun b4 => ?_)
      · refine rr_aload0 (pc := 37) B dX9_plan_37 ?_
        refine rr_iconst (z := 1) (pc := 38) B dX9_plan_38 ?_
        refine rc_VI1 (pc := 39) B dX9_plan_39 vm_X9_meets lk_9_161 so_9 rfl (ct_X9_meets _ _ _  (by omega)) (Nat.le_of_ble_eq_true rfl) (Nat.le_of_ble_eq_true rfl) ?_
        refine rr_ireturn (pc := 42) B Br dX9_plan_42 ⟨congrArg (fun z => some (aI z)) ?_, ?_⟩
        · unfold vPlan; repeat (first | rw [if_pos (by omega)] | rw [if_neg (by omega)])
        · unfold sPlan mee; repeat (first | rw [if_pos (by omega)] | rw [if_neg (by omega)])
          first | exact ⟨bs_ms H0 _ _ _, co_ms (co_rfl M) (by decide)⟩ | exact ⟨H0, co_rfl M⟩ | exact ⟨b5.1.2.1, co_P b5.2⟩
      · refine rr_aload0 (pc := 28) B dX9_plan_28 ?_
        refine rr_iload1 (pc := 29) B dX9_plan_29 ?_
        refine rr_iload2 (pc := 30) B dX9_plan_30 ?_
        refine rc_VIR2 (pc := 31) B dX9_plan_31 vm_X9_planOf lk_9_217 so_9 rfl (ct_X9_planOf _ _ _ _ _ (by exact H0) (by omega) (by omega)) (Nat.le_of_ble_eq_true rfl) (Nat.le_of_ble_eq_true rfl) (fun Mb5 b5 => ?_)
        refine rr_goto 42 (pc := 34) B dX9_plan_34 (by decide) ?_
        refine rr_ireturn (pc := 42) B Br dX9_plan_42 ⟨congrArg (fun z => some (aI z)) ?_, ?_⟩
        · unfold vPlan; repeat (first | rw [if_pos (by omega)] | rw [if_neg (by omega)])
        · unfold sPlan mee; repeat (first | rw [if_pos (by omega)] | rw [if_neg (by omega)])
          first | exact ⟨bs_ms H0 _ _ _, co_ms (co_rfl M) (by decide)⟩ | exact ⟨H0, co_rfl M⟩ | exact ⟨b5.1.2.1, co_P b5.2⟩
    · replace b2 := of_decide_eq_false b2
      refine rr_bipush (z := (-2)) (pc := 16) B dX9_plan_16 (by decide) ?_
      refine rr_ireturn (pc := 18) B Br dX9_plan_18 ⟨congrArg (fun z => some (aI z)) ?_, ?_⟩
      · unfold vPlan; repeat (first | rw [if_pos (by omega)] | rw [if_neg (by omega)])
      · unfold sPlan mee; repeat (first | rw [if_pos (by omega)] | rw [if_neg (by omega)])
        first | exact ⟨bs_ms H0 _ _ _, co_ms (co_rfl M) (by decide)⟩ | exact ⟨H0, co_rfl M⟩ | exact ⟨b5.1.2.1, co_P b5.2⟩
