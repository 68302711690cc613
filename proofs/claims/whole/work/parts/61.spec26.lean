/-! a sighting more -/
theorem cl_cg {M N : ax_M} (h : ∀ k i, k ≠ 43 → M k i = N k i) (a b : Int) : clB M a b = clB N a b := by
  unfold clB
  rw [h 40 a (by decide), h 40 b (by decide), h 41 a (by decide), h 41 b (by decide), h 42 a (by decide), h 42 b (by decide)]
theorem mf_inv (N : ax_M) {n : Int} (hn : 0 ≤ n) : ∀ m : Nat, (m : Int) ≤ n → (∀ k i, k ≠ 43 → itI (mfS n) (ms N 43 n 0) m k i = N k i) ∧ (∀ j, 0 ≤ j → j < n → ∀ k, 0 ≤ k → tb (itI (mfS n) (ms N 43 n 0) m 43 j) k = (tb (N 43 j) k || decide (k = n ∧ j < m ∧ clB N j n = true))) ∧ (∀ k, 0 ≤ k → tb (itI (mfS n) (ms N 43 n 0) m 43 n) k = decide (k < m ∧ clB N k n = true)) := by
  intro m
  induction m with
  | zero =>
    intro _
    refine ⟨fun k i q => ms_k q, fun j j0 j1 k k0 => ?_, fun k k0 => ?_⟩
    · show tb (ms N 43 n 0 43 j) k = _
      rw [ms_off (by omega), decide_eq_false (by omega), Bool.or_false]
    · show tb (ms N 43 n 0 43 n) k = _
      rw [ms_at, tb_0, decide_eq_false (by omega)]
  | succ m ih =>
    intro hm
    have ih := ih (by omega)
    have s1 : itI (mfS n) (ms N 43 n 0) ((m : Int) + 1) = mfS n m (itI (mfS n) (ms N 43 n 0) m) := itI_s _ _ (by omega)
    rw [show ((m + 1 : Nat) : Int) = (m : Int) + 1 by omega, s1]
    clear s1
    generalize itI (mfS n) (ms N 43 n 0) (m : Int) = Q at ih ⊢
    obtain ⟨i1, i2, i3⟩ := ih
    have ec := cl_cg i1 (m : Int) n
    unfold mfS
    cases c : clB N (m : Int) n
    · rw [if_neg (by rw [ec, c]; decide)]
      refine ⟨i1, fun j j0 j1 k k0 => ?_, fun k k0 => ?_⟩
      · rw [i2 j j0 j1 k k0]
        congr 1
        rw [decide_eq_decide]
        constructor
        · rintro ⟨a, b, d⟩; exact ⟨a, by omega, d⟩
        · rintro ⟨a, b, d⟩
          rcases Int.lt_or_eq_of_le (show j ≤ m by omega) with q | q
          · exact ⟨a, q, d⟩
          · subst q; rw [c] at d; cases d
      · rw [i3 k k0, decide_eq_decide]
        constructor
        · rintro ⟨b, d⟩; exact ⟨by omega, d⟩
        · rintro ⟨b, d⟩
          rcases Int.lt_or_eq_of_le (show k ≤ m by omega) with q | q
          · exact ⟨q, d⟩
          · subst q; rw [c] at d; cases d
    · rw [if_pos (by rw [ec, c])]
      rw [show ms Q 43 m (nO (Q 43 m) (p2 n)) 43 n = Q 43 n from ms_off (by omega)]
      refine ⟨fun k i q => by rw [ms_k q, ms_k q]; exact i1 k i q, fun j j0 j1 k k0 => ?_, fun k k0 => ?_⟩
      · rw [ms_off (by omega), ms_e]
        by_cases q : j = m
        · subst q
          rw [if_pos rfl, tb_nO, tb_p2 hn k0, i2 _ j0 j1 k k0, Bool.or_assoc]
          congr 1
          rw [Bool.eq_iff_iff, Bool.or_eq_true, decide_eq_true_iff, decide_eq_true_iff, decide_eq_true_iff]
          constructor
          · rintro (⟨a, b, d⟩ | a)
            · omega
            · exact ⟨a, by omega, c⟩
          · rintro ⟨a, -, -⟩; exact Or.inr a
        · rw [if_neg q, i2 j j0 j1 k k0]
          congr 1
          rw [decide_eq_decide]
          constructor
          · rintro ⟨a, b, d⟩; exact ⟨a, by omega, d⟩
          · rintro ⟨a, b, d⟩; exact ⟨a, by omega, d⟩
      · rw [ms_at, tb_nO, tb_p2 (k := (m : Int)) (by omega) k0, i3 k k0, Bool.eq_iff_iff, Bool.or_eq_true, decide_eq_true_iff, decide_eq_true_iff, decide_eq_true_iff]
        constructor
        · rintro (⟨a, b⟩ | a)
          · exact ⟨by omega, b⟩
          · subst a; exact ⟨by omega, c⟩
        · rintro ⟨a, b⟩
          rcases Int.lt_or_eq_of_le (show k ≤ m by omega) with q | q
          · exact Or.inl ⟨q, b⟩
          · exact Or.inr q
theorem RC_seen {S M : ax_M} {p x h : Int} (sr : SR S) (hr : RC S M) : RC (ms (ms (ms (ms S 65 (S 9 26) p) 66 (S 9 26) x) 67 (S 9 26) h) 9 26 (S 9 26 + 1)) (mfM (sgM M p x h) (M 7 0)) ∧ mo M (mfM (sgM M p x h) (M 7 0)) := by
  have n0 : 0 ≤ S 9 26 := (sr 9 26 rfl).1
  have e7 : M 7 0 = S 9 26 := hr.2.2.2.1.1
  rw [e7]
  have eS : sgM M p x h = ms (ms (ms (ms (ms M 40 (S 9 26) p) 41 (S 9 26) x) 42 (S 9 26) h) 7 0 (S 9 26 + 1)) 7 6 1 := by unfold sgM; rw [e7]
  have inv := mf_inv (sgM M p x h) n0 (S 9 26).toNat (by omega)
  rw [show (((S 9 26).toNat : Nat) : Int) = S 9 26 by omega] at inv
  have em : mfM (sgM M p x h) (S 9 26) = itI (mfS (S 9 26)) (ms (sgM M p x h) 43 (S 9 26) 0) (S 9 26) := rfl
  rw [em]
  clear em
  generalize itI (mfS (S 9 26)) (ms (sgM M p x h) 43 (S 9 26) 0) (S 9 26) = Q at inv ⊢
  obtain ⟨i1, i2, i3⟩ := inv
  have fr : ∀ (k : Nat) i, k ≠ 7 → ¬ (40 ≤ k ∧ k ≤ 43) → Q k i = M k i := fun k i a b => by
    rw [i1 k i (by omega), eS, ms_k a, ms_k a, ms_k (by omega), ms_k (by omega), ms_k (by omega)]
  have cell : ∀ i, 0 ≤ i → i < S 9 26 + 1 → Q 40 i = ms S 65 (S 9 26) p 65 i ∧ Q 41 i = ms S 66 (S 9 26) x 66 i ∧ Q 42 i = ms S 67 (S 9 26) h 67 i := fun i a b => by
    rw [i1 40 i (by decide), i1 41 i (by decide), i1 42 i (by decide), eS]
    show ms M 40 (S 9 26) p 40 i = _ ∧ ms M 41 (S 9 26) x 41 i = _ ∧ ms M 42 (S 9 26) h 42 i = _
    rw [ms_e, ms_e, ms_e, ms_e, ms_e, ms_e]
    by_cases q : i = S 9 26
    · rw [if_pos q, if_pos q, if_pos q, if_pos q, if_pos q, if_pos q]; exact ⟨rfl, rfl, rfl⟩
    · rw [if_neg q, if_neg q, if_neg q, if_neg q, if_neg q, if_neg q]; exact (hr.2.2.2.1.2.1 i a (by omega)).1
  have cl : ∀ i j, 0 ≤ i → i < S 9 26 + 1 → 0 ≤ j → j < S 9 26 + 1 → clB (sgM M p x h) i j = arF (ms (ms (ms (ms S 65 (S 9 26) p) 66 (S 9 26) x) 67 (S 9 26) h) 9 26 (S 9 26 + 1)) i j := fun i j a b c d => by
    rw [← cl_cg i1]
    have u := cell i a b
    have v := cell j c d
    unfold clB
    rw [u.1, u.2.1, u.2.2, v.1, v.2.1, v.2.2]
    rfl
  have ao : ∀ i j, i ≠ S 9 26 → j ≠ S 9 26 → arF (ms (ms (ms (ms S 65 (S 9 26) p) 66 (S 9 26) x) 67 (S 9 26) h) 9 26 (S 9 26 + 1)) i j = arF S i j := fun i j a b => by
    have f5 : ∀ z, z ≠ S 9 26 → ms (ms (ms (ms S 65 (S 9 26) p) 66 (S 9 26) x) 67 (S 9 26) h) 9 26 (S 9 26 + 1) 65 z = S 65 z := fun z q => show ms S 65 (S 9 26) p 65 z = S 65 z from ms_off q
    have f6 : ∀ z, z ≠ S 9 26 → ms (ms (ms (ms S 65 (S 9 26) p) 66 (S 9 26) x) 67 (S 9 26) h) 9 26 (S 9 26 + 1) 66 z = S 66 z := fun z q => show ms S 66 (S 9 26) x 66 z = S 66 z from ms_off q
    have f7 : ∀ z, z ≠ S 9 26 → ms (ms (ms (ms S 65 (S 9 26) p) 66 (S 9 26) x) 67 (S 9 26) h) 9 26 (S 9 26 + 1) 67 z = S 67 z := fun z q => show ms S 67 (S 9 26) h 67 z = S 67 z from ms_off q
    unfold arF
    rw [f5 i a, f5 j b, f6 i a, f6 j b, f7 i a, f7 j b]
  refine ⟨RC_pg hr (fun k i a b => by rw [ms_o2 a, ms_k (by omega), ms_k (by omega), ms_k (by omega)]) fr ⟨?_, fun i a b => ?_, fun z => ?_⟩, fun k i e => fr k i (by omega) (by omega)⟩
  · rw [i1 7 0 (by decide), eS]; rfl
  · have b : i < S 9 26 + 1 := b
    refine ⟨cell i a b, fun j j0 => ?_⟩
    show _ ↔ j < S 9 26 + 1 ∧ j ≠ i ∧ _
    by_cases q : i = S 9 26
    · subst q
      rw [i3 j j0, decide_eq_true_iff]
      constructor
      · rintro ⟨u, v⟩
        rw [cl j _ j0 (by omega) a b, arF_sym] at v
        exact ⟨by omega, by omega, v⟩
      · rintro ⟨u, v, w⟩
        refine ⟨by omega, ?_⟩
        rw [cl j _ j0 (by omega) a b, arF_sym]
        exact w
    · have old := (hr.2.2.2.1.2.1 i a (by omega)).2 j j0
      have e43 : sgM M p x h 43 i = M 43 i := by rw [eS]; rfl
      rw [i2 i a (by omega) j j0, e43, Bool.or_eq_true, decide_eq_true_iff, old]
      by_cases r : j = S 9 26
      · subst r
        rw [← cl i _ a b j0 (by omega)]
        constructor
        · rintro (⟨u, -⟩ | ⟨-, -, w⟩)
          · omega
          · exact ⟨by omega, fun z => q z.symm, w⟩
        · rintro ⟨-, -, w⟩
          exact Or.inr ⟨rfl, by omega, w⟩
      · rw [ao i j q r]
        constructor
        · rintro (⟨u, v, w⟩ | ⟨u, -⟩)
          · exact ⟨by omega, v, w⟩
          · exact absurd u r
        · rintro ⟨u, v, w⟩
          exact Or.inl ⟨by omega, v, w⟩
  · have z : Q 7 6 = 0 := z
    rw [i1 7 6 (by decide), eS] at z
    exact absurd (show (1 : Int) = 0 from z) (by decide)
