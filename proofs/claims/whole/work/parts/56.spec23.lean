/-! reading the weather from a sheet, writing the plan to one -/
theorem RC_nc {S M : ax_M} (h : RC S M) : RC S (nc M) :=
  RC_nt h (fun _ _ _ => rfl) (fun k i e => nc_fr M i (by omega)) rfl rfl (RCt_cg (eqK_r _ S) (fun k i e => nc_fr M i (by have := of_decide_eq_true e; omega)) h.1) (RCn_cg (eqK_r _ S) (fun k i e => nc_fr M i (by have := of_decide_eq_true e; omega)) h.2.1)
theorem RC_we2 {S M : ax_M} {x v : Int} (h : RC S M) (h9 : M 8 9 = 1 ∧ M 8 10 = 1) : RC (ms S 59 x v) (ms M 16 x v) := by
  obtain ⟨n1, n2, n3⟩ := h.2.1
  refine RC_nt h (fun k i e => ms_k (by omega)) (fun k i e => ms_k (by omega)) h9.1 h9.2 (RCt_cg (fun k i e => ms_k (by have := of_decide_eq_true e; omega)) (fun k i e => ms_k (by have := of_decide_eq_true e; omega)) h.1) ⟨n1, fun q a b => ?_, n3⟩
  rw [ms_e, ms_e]
  split
  · rfl
  · exact n2 q a b
theorem rd_s (S : ax_M) (s : Int) {h : Int} (h0 : 0 ≤ h) : rdS S s (h + 1) = ms (rdS S s h) 59 h (S 73 (60 * s + h)) := itI_s _ _ h0
theorem wr_s (S : ax_M) (s : Int) {d : Int} (h0 : 0 ≤ d) : wrS S s (d + 1) = kpS (wrS S s d) s d (mstR (vw S) d) := itI_s _ _ h0
theorem RC_row {S M : ax_M} (h : RC S M) {s i : Int} (hs : 0 ≤ s ∧ s ≤ 3) (hi : 0 ≤ i ∧ i < 60) : M (34 + s.toNat) i = S 73 (60 * s + i) := (h.2.2.2.2.1.2 s hs.1 hs.2).2.2 i hi.1 hi.2
