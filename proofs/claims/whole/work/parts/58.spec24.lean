/-! a plan from a sheet -/
theorem RC_44 {S M : ax_M} {i v : Int} (h : RC S M) : RC S (ms M 44 i v) :=
  RC_fo h (fun k j e => ms_k (by omega)) (RCo_cg (eqK_r _ S) (eqK_r _ S) (fun k j e => ms_k (by have := of_decide_eq_true e; omega)) h.2.2.2.2.2)
theorem SR.p57 {S : ax_M} (h : SR S) (p : Int) : 0 ≤ vw S 57 p ∧ vw S 57 p ≤ 99 := h 57 p rfl
theorem SR.r60 {S : ax_M} (h : SR S) : 0 ≤ vw S 60 0 ∧ vw S 60 0 ≤ 999 := h 60 0 rfl
theorem pl_eq {S : ax_M} (sr : SR S) {s : Int} {r : Int → Int} (e : ∀ d, 0 ≤ d → d < vw S 9 2 → r d = S 73 (60 * s + d)) : pcV (vw S) s = if okQ (vw S) r = true then coQ (vw S) r else -3 :=
  plan_eq (vw_n8 sr) (fun p _ _ => sr.p57 p) sr.r60 e
theorem wr_eq {S : ax_M} (sr : SR S) {s : Int} {r : Int → Int} (e : ∀ d, 0 ≤ d → d < vw S 9 2 → r d = S 73 (60 * s + d)) : wR (vw S) r = itI (fun d a => a + if S 73 (60 * s + d) = -1 then 0 else vw S 50 d) 0 (vw S 9 2) := by
  have N8 := vw_n8 sr
  unfold wR itI
  exact itI_cg _ (fun i x a b => by rw [e i a (by omega)])
theorem coQ_n {S : ax_M} (sr : SR S) (r : Int → Int) : 0 ≤ coQ (vw S) r := by
  have N8 := vw_n8 sr
  have a : 0 ≤ cqS (vw S) r (vw S 9 2) := by
    unfold cqS
    refine itI_inv (fun (_ : Int) (x : Int) => 0 ≤ x) N8.1 (Int.le_refl 0) (fun i x _ _ w => ?_)
    have p := (prc_r (vw S) (cm (vw S) i (r i)) (fun p _ _ => sr.p57 p)).1
    show 0 ≤ x + _
    split <;> omega
  have b := (on_r (cqT (vw S) r (vw S 9 2))).1
  have c := sr.r60.1
  unfold coQ
  exact Int.add_nonneg a (Int.mul_nonneg b c)
