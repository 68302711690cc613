/-! the offers and the plan are reckoned when they are asked for -/
theorem RC_RO {S M : ax_M} (h : RC S M) (z : M 8 9 = 0) : RO (vw S) M := h.2.2.2.2.2.1 z
theorem RC_PL {S M : ax_M} (h : RC S M) (z : M 8 10 = 0) : RPl (vw S) M := (h.2.2.2.2.2.2 z).2
theorem RC_fo {S M M2 : ax_M} (h : RC S M) (f : ∀ k i, (k = 0 ∨ k = 3 ∨ 5 ≤ k ∧ k ≤ 7 ∨ 10 ≤ k ∧ k ≤ 17 ∨ k = 24 ∨ k = 25 ∨ 30 ≤ k ∧ k ≤ 43) → M2 k i = M k i) (o : RCo S M2) : RC S M2 := by
  have g : ∀ P : Nat → Bool, eqK P S S := fun P => eqK_r P S
  exact ⟨RCt_cg (g _) (fun k i e => f k i (by have := of_decide_eq_true e; omega)) h.1, RCn_cg (g _) (fun k i e => f k i (by have := of_decide_eq_true e; omega)) h.2.1, RCp_cg rfl (fun _ => rfl) (fun _ => rfl) (fun k i e => f k i (by have := of_decide_eq_true e; omega)) h.2.2.1, RCg_cg rfl rfl rfl rfl (fun k i e => f k i (by have := of_decide_eq_true e; omega)) h.2.2.2.1, RCs_cg rfl (fun _ => rfl) (fun _ => rfl) (fun _ => rfl) (fun _ => rfl) (fun k i e => f k i (by have := of_decide_eq_true e; omega)) h.2.2.2.2.1, o⟩
theorem RC_off {S M M2 : ax_M} (h : RC S M) (n : M 8 9 ≠ 0) (r : RO (vw S) M2) (f : frm exO M M2) : RC S (ms M2 8 9 0) ∧ mo M (ms M2 8 9 0) ∧ ms M2 8 9 0 8 9 = 0 := by
  have e : ∀ (k : Nat) i, k ≠ 8 → exO k i = false → ms M2 8 9 0 k i = M k i := fun k i a b => (ms_k a).trans (f k i b)
  refine ⟨RC_fo h (fun k i q => e k i (by omega) (decide_eq_false (by omega))) ⟨fun _ => r, fun z => ?_⟩, fun k i q => e k i (by omega) (decide_eq_false (by omega)), ms_at _ _ _ _⟩
  have z : ms M2 8 9 0 8 10 = 0 := z
  rw [ms_off (by decide), f 8 10 rfl] at z
  exact absurd (h.2.2.2.2.2.2 z).1 n
theorem RC_pln {S M M2 : ax_M} (h : RC S M) (z9 : M 8 9 = 0) (r : RPl (vw S) M2) (f : frm exQ M M2) : RC S (ms M2 8 10 0) ∧ mo M (ms M2 8 10 0) ∧ ms M2 8 10 0 8 9 = 0 ∧ ms M2 8 10 0 8 10 = 0 := by
  have e : ∀ (k : Nat) i, k ≠ 8 → exQ k i = false → ms M2 8 10 0 k i = M k i := fun k i a b => (ms_k a).trans (f k i b)
  have e9 : ms M2 8 10 0 8 9 = 0 := by rw [ms_off (by decide), f 8 9 rfl]; exact z9
  exact ⟨RC_fo h (fun k i q => e k i (by omega) (decide_eq_false (by omega))) ⟨fun _ => show RO (vw S) M2 from ro_Q (RC_RO h z9) f, fun _ => ⟨e9, r⟩⟩, fun k i q => e k i (by omega) (decide_eq_false (by omega)), e9, ms_at _ _ _ _⟩
