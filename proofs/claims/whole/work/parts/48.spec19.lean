/-! what the calls that change the night make of RC -/
def nc (M : ax_M) : ax_M := ms (ms M 8 9 1) 8 10 1
def kTd (k : Nat) : Bool := decide (k = 0 ∨ 10 ≤ k ∧ k ≤ 14)
def kTr (k : Nat) : Bool := decide (k = 5 ∨ 30 ≤ k ∧ k ≤ 32)
theorem ms_k {M : ax_M} {k k' : Nat} {i i' v : Int} (h : k' ≠ k) : ms M k i v k' i' = M k' i' := by
  unfold ms
  rw [if_neg (by rintro ⟨rfl, -⟩; exact h rfl)]
theorem RelD_c2 {q M M2 : ax_M} (h : eqK kTd M M2) (c : RelD q M) : RelD q M2 := by
  unfold RelD CoD at c ⊢
  rw [h 0 5 rfl, h 0 6 rfl, h 0 7 rfl, h 0 8 rfl, h 0 9 rfl, h 0 10 rfl]
  refine ⟨c.1, c.2.1, fun d d0 => ?_⟩
  rw [h 10 d rfl, h 11 d rfl, h 12 d rfl, h 13 d rfl, h 14 d rfl]
  exact c.2.2 d d0
theorem RelR_c2 {q M M2 : ax_M} (h : eqK kTr M M2) (c : RelR q M) : RelR q M2 := by
  unfold RelR at c ⊢
  rw [h 5 0 rfl, h 5 1 rfl, h 5 2 rfl, h 5 6 rfl, h 5 7 rfl, h 5 8 rfl, h 5 9 rfl]
  refine ⟨c.1, c.2.1, fun k a b => ?_⟩
  rw [h 30 k rfl, h 31 k rfl, h 32 k rfl]
  exact c.2.2 k a b
theorem tkD_fr (M : ax_M) (b : Int) {k : Nat} (i : Int) (hk : kTd k = false) : tkD M b k i = M k i := by
  have hk := of_decide_eq_false hk
  have e : ∀ (N : ax_M) (k' : Nat) (j v : Int), (k' = 0 ∨ 10 ≤ k' ∧ k' ≤ 14) → ms N k' j v k i = N k i := fun N k' j v q => ms_k (by rintro rfl; exact hk q)
  have g : goM M b k i = M k i := by
    unfold goM tiM twM
    repeat' split
    all_goals first | rfl | (repeat rw [e _ _ _ _ (by decide)])
  have t : tk1 M b k i = M k i := by
    unfold tk1
    repeat' split
    · exact g
    · rw [e _ _ _ _ (by decide)]; exact g
    · rfl
  unfold tkD fi4 fi3 fi2
  rw [e _ _ _ _ (by decide), e _ _ _ _ (by decide), e _ _ _ _ (by decide)]
  exact t
theorem tkR_fr (M : ax_M) (b : Int) {k : Nat} (i : Int) (hk : kTr k = false) : tkR M b k i = M k i := by
  have hk := of_decide_eq_false hk
  have e : ∀ (N : ax_M) (k' : Nat) (j v : Int), (k' = 5 ∨ 30 ≤ k' ∧ k' ≤ 32) → ms N k' j v k i = N k i := fun N k' j v q => ms_k (by rintro rfl; exact hk q)
  have g : rgM M b k i = M k i := by
    unfold rgM rkM rnM rmM sayM
    repeat' split
    all_goals first | rfl | (repeat rw [e _ _ _ _ (by decide)])
  have t : rk1 M b k i = M k i := by
    unfold rk1
    repeat' split
    · exact g
    · rw [e _ _ _ _ (by decide)]; exact g
    · rfl
  unfold tkR rf4 rf3 rf2
  rw [e _ _ _ _ (by decide), e _ _ _ _ (by decide), e _ _ _ _ (by decide)]
  exact t
theorem clD_fr (M : ax_M) {k : Nat} (i : Int) (hk : kTd k = false) : clD M k i = M k i := by
  have hk := of_decide_eq_false hk
  have e : ∀ (N : ax_M) (j v : Int), ms N 0 j v k i = N k i := fun N j v => ms_k (by rintro rfl; exact hk (Or.inl rfl))
  unfold clD
  rw [e, e, e, e, e, e]
theorem clR_fr (M : ax_M) {k : Nat} (i : Int) (hk : kTr k = false) : clR M k i = M k i := by
  have hk := of_decide_eq_false hk
  have e : ∀ (N : ax_M) (k' : Nat) (j v : Int), (k' = 5 ∨ 30 ≤ k' ∧ k' ≤ 32) → ms N k' j v k i = N k i := fun N k' j v q => ms_k (by rintro rfl; exact hk q)
  refine itI_inv (f := fun k M => sayM M k 0) (a := ms (ms (ms (ms (ms (ms M 5 0 0) 5 1 0) 5 2 (-1)) 5 6 0) 5 8 0) 5 9 (-1)) (p := 4) (fun (_ : Int) (N : ax_M) => N k i = M k i) (by decide) ?_ (fun j N _ _ w => ?_)
  · rw [e _ _ _ _ (by decide), e _ _ _ _ (by decide), e _ _ _ _ (by decide), e _ _ _ _ (by decide), e _ _ _ _ (by decide), e _ _ _ _ (by decide)]
  · unfold sayM
    rw [e _ _ _ _ (by decide), e _ _ _ _ (by decide), e _ _ _ _ (by decide)]
    exact w
theorem nc_fr (M : ax_M) {k : Nat} (i : Int) (hk : k ≠ 8) : nc M k i = M k i := by
  unfold nc
  rw [ms_k hk, ms_k hk]
theorem dq_5 (t : Int → Int) {n : Int} (hn : 0 ≤ n) : dq t n 0 5 = n :=
  itI_inv (f := fun i q => tkD q (t i)) (a := q0) (p := n) (fun (i : Int) (q : ax_M) => q 0 5 = i) hn rfl (fun i q _ _ w => by rw [tkD_by, w])
theorem rq_0 (t : Int → Int) {n : Int} (hn : 0 ≤ n) : rq t n 5 0 = n :=
  itI_inv (f := fun i q => tkR q (t i)) (a := q0) (p := n) (fun (i : Int) (q : ax_M) => q 5 0 = i) hn rfl (fun i q _ _ w => by rw [tkR_by, w])
/-- the parts of RC that a change of the night's leaves, when only cells of P are new -/
theorem RC_nt {S S2 M M2 : ax_M} (h : RC S M) (hS : ∀ k i, (k = 9 ∨ 65 ≤ k) → S2 k i = S k i) (hM : ∀ k i, (k = 3 ∨ k = 24 ∨ k = 25 ∨ k = 7 ∨ 40 ≤ k ∧ k ≤ 43 ∨ k = 6 ∨ 34 ≤ k ∧ k ≤ 39) → M2 k i = M k i) (h9 : M2 8 9 = 1) (h10 : M2 8 10 = 1) (t : RCt S2 M2) (n : RCn S2 M2) : RC S2 M2 := by
  refine ⟨t, n, RCp_cg (hS 9 _ (Or.inl rfl)) (fun _ => hS 68 _ (by omega)) (fun _ => hS 69 _ (by omega)) (fun k i e => hM k i (by have := of_decide_eq_true e; omega)) h.2.2.1, RCg_cg (hS 9 _ (Or.inl rfl)) (funext fun _ => hS 65 _ (by omega)) (funext fun _ => hS 66 _ (by omega)) (funext fun _ => hS 67 _ (by omega)) (fun k i e => hM k i (by have := of_decide_eq_true e; omega)) h.2.2.2.1, RCs_cg (hS 9 _ (Or.inl rfl)) (fun _ => hS 70 _ (by omega)) (fun _ => hS 71 _ (by omega)) (fun _ => hS 72 _ (by omega)) (fun _ => hS 73 _ (by omega)) (fun k i e => hM k i (by have := of_decide_eq_true e; omega)) h.2.2.2.2.1, RCo_1 h9 h10⟩
theorem RC_ty0 {S M : ax_M} {b : Int} (h : RC S M) (sr : SR S) (h8 : S 45 0 < 80) : RC (ms (ms S 46 (80 * 0 + S 45 0) b) 45 0 (S 45 0 + 1)) (tkD (nc M) b) := by
  have n0 := sr.n0
  have f : ∀ {k : Nat} (i : Int), kTd k = false → k ≠ 8 → tkD (nc M) b k i = M k i := fun i e e8 => (tkD_fr (nc M) b i e).trans (nc_fr M i e8)
  have hS : ∀ (k : Nat) i, k ≠ 45 → k ≠ 46 → (ms (ms S 46 (80 * 0 + S 45 0) b) 45 0 (S 45 0 + 1)) k i = S k i := fun k i a c => by rw [ms_k a, ms_k c]
  refine RC_nt h (fun k i e => hS k i (by omega) (by omega)) (fun k i e => f i (decide_eq_false (by omega)) (by omega)) (tkD_fr (nc M) b 9 rfl) (tkD_fr (nc M) b 10 rfl) ?_ (RCn_cg (fun k i e => hS k i (by have := of_decide_eq_true e; omega) (by have := of_decide_eq_true e; omega)) (fun k i e => f i (decide_eq_false (by have := of_decide_eq_true e; omega)) (by have := of_decide_eq_true e; omega)) h.2.1)
  have e1 : qd (ms (ms S 46 (80 * 0 + S 45 0) b) 45 0 (S 45 0 + 1)) = tkD (qd S) b := by
    show dq (t0 _) (ms (ms S 46 (80 * 0 + S 45 0) b) 45 0 (S 45 0 + 1) 45 0) = _
    rw [ms_at, dq_s _ n0.1, dq_cg (t' := t0 S) (fun i a c => by
      show ms (ms S 46 (80 * 0 + S 45 0) b) 45 0 (S 45 0 + 1) 46 (80 * 0 + i) = S 46 (80 * 0 + i)
      rw [ms_k (by decide), ms_off (by omega)])]
    congr 1
    show ms (ms S 46 (80 * 0 + S 45 0) b) 45 0 (S 45 0 + 1) 46 (80 * 0 + S 45 0) = b
    rw [ms_k (by decide), ms_at]
  have e2 : qr (ms (ms S 46 (80 * 0 + S 45 0) b) 45 0 (S 45 0 + 1)) = qr S := by
    show rq (t1 _) (ms (ms S 46 (80 * 0 + S 45 0) b) 45 0 (S 45 0 + 1) 45 1) = _
    rw [ms_off (by decide), ms_k (by decide)]
    exact rq_cg (fun i a c => by
      show ms (ms S 46 (80 * 0 + S 45 0) b) 45 0 (S 45 0 + 1) 46 (80 * 1 + i) = S 46 (80 * 1 + i)
      rw [ms_k (by decide), ms_off (by omega)])
  unfold RCt
  rw [e1, e2]
  exact ⟨tkD_Rel b (dq_CI (t0 S) n0.1) (RelD_c2 (fun k i e => nc_fr M i (by have := of_decide_eq_true e; omega)) h.1.1), RelR_c2 (fun k i e => f i (decide_eq_false (by have := of_decide_eq_true e; omega)) (by have := of_decide_eq_true e; omega)) h.1.2⟩
theorem RC_ty1 {S M : ax_M} {b : Int} (h : RC S M) (sr : SR S) : RC (ms (ms S 46 (80 * 1 + S 45 1) b) 45 1 (S 45 1 + 1)) (tkR (nc M) b) := by
  have n0 := sr.n0
  have n1 := sr.n1
  have f : ∀ {k : Nat} (i : Int), kTr k = false → k ≠ 8 → tkR (nc M) b k i = M k i := fun i e e8 => (tkR_fr (nc M) b i e).trans (nc_fr M i e8)
  have hS : ∀ (k : Nat) i, k ≠ 45 → k ≠ 46 → (ms (ms S 46 (80 * 1 + S 45 1) b) 45 1 (S 45 1 + 1)) k i = S k i := fun k i a c => by rw [ms_k a, ms_k c]
  refine RC_nt h (fun k i e => hS k i (by omega) (by omega)) (fun k i e => f i (decide_eq_false (by omega)) (by omega)) (tkR_fr (nc M) b 9 rfl) (tkR_fr (nc M) b 10 rfl) ?_ (RCn_cg (fun k i e => hS k i (by have := of_decide_eq_true e; omega) (by have := of_decide_eq_true e; omega)) (fun k i e => f i (decide_eq_false (by have := of_decide_eq_true e; omega)) (by have := of_decide_eq_true e; omega)) h.2.1)
  have e1 : qr (ms (ms S 46 (80 * 1 + S 45 1) b) 45 1 (S 45 1 + 1)) = tkR (qr S) b := by
    show rq (t1 _) (ms (ms S 46 (80 * 1 + S 45 1) b) 45 1 (S 45 1 + 1) 45 1) = _
    rw [ms_at, rq_s _ n1.1, rq_cg (t' := t1 S) (fun i a c => by
      show ms (ms S 46 (80 * 1 + S 45 1) b) 45 1 (S 45 1 + 1) 46 (80 * 1 + i) = S 46 (80 * 1 + i)
      rw [ms_k (by decide), ms_off (by omega)])]
    congr 1
    show ms (ms S 46 (80 * 1 + S 45 1) b) 45 1 (S 45 1 + 1) 46 (80 * 1 + S 45 1) = b
    rw [ms_k (by decide), ms_at]
  have e2 : qd (ms (ms S 46 (80 * 1 + S 45 1) b) 45 1 (S 45 1 + 1)) = qd S := by
    show dq (t0 _) (ms (ms S 46 (80 * 1 + S 45 1) b) 45 1 (S 45 1 + 1) 45 0) = _
    rw [ms_off (by decide), ms_k (by decide)]
    exact dq_cg (fun i a c => by
      show ms (ms S 46 (80 * 1 + S 45 1) b) 45 1 (S 45 1 + 1) 46 (80 * 0 + i) = S 46 (80 * 0 + i)
      rw [ms_k (by decide), ms_off (by omega)])
  unfold RCt
  rw [e1, e2]
  exact ⟨RelD_c2 (fun k i e => f i (decide_eq_false (by have := of_decide_eq_true e; omega)) (by have := of_decide_eq_true e; omega)) h.1.1, tkR_Rel b (rq_8 (t1 S) n1.1) (RelR_c2 (fun k i e => nc_fr M i (by have := of_decide_eq_true e; omega)) h.1.2)⟩
theorem RC_wi0 {S M : ax_M} (h : RC S M) : RC (ms S 45 0 0) (clD (nc M)) := by
  have f : ∀ {k : Nat} (i : Int), kTd k = false → k ≠ 8 → clD (nc M) k i = M k i := fun i e e8 => (clD_fr (nc M) i e).trans (nc_fr M i e8)
  have hS : ∀ (k : Nat) i, k ≠ 45 → (ms S 45 0 0) k i = S k i := fun k i a => ms_k a
  refine RC_nt h (fun k i e => hS k i (by omega)) (fun k i e => f i (decide_eq_false (by omega)) (by omega)) rfl rfl ?_ (RCn_cg (fun k i e => hS k i (by have := of_decide_eq_true e; omega)) (fun k i e => f i (decide_eq_false (by have := of_decide_eq_true e; omega)) (by have := of_decide_eq_true e; omega)) h.2.1)
  exact ⟨RelD_0 _, RelR_c2 (fun k i e => f i (decide_eq_false (by have := of_decide_eq_true e; omega)) (by have := of_decide_eq_true e; omega)) h.1.2⟩
theorem RC_wi1 {S M : ax_M} (h : RC S M) : RC (ms S 45 1 0) (clR (nc M)) := by
  have f : ∀ {k : Nat} (i : Int), kTr k = false → k ≠ 8 → clR (nc M) k i = M k i := fun i e e8 => (clR_fr (nc M) i e).trans (nc_fr M i e8)
  have hS : ∀ (k : Nat) i, k ≠ 45 → (ms S 45 1 0) k i = S k i := fun k i a => ms_k a
  refine RC_nt h (fun k i e => hS k i (by omega)) (fun k i e => f i (decide_eq_false (by omega)) (by omega)) (clR_fr (nc M) 9 rfl) (clR_fr (nc M) 10 rfl) ?_ (RCn_cg (fun k i e => hS k i (by have := of_decide_eq_true e; omega)) (fun k i e => f i (decide_eq_false (by have := of_decide_eq_true e; omega)) (by have := of_decide_eq_true e; omega)) h.2.1)
  exact ⟨RelD_c2 (fun k i e => f i (decide_eq_false (by have := of_decide_eq_true e; omega)) (by have := of_decide_eq_true e; omega)) h.1.1, q0_RelR _⟩
/-- a change of persons, weather, settings -/
theorem RC_ni {S S2 M M2 : ax_M} (h : RC S M) (hS : ∀ k i, ¬ (55 ≤ k ∧ k ≤ 60) → S2 k i = S k i) (hM : ∀ k i, ¬ (15 ≤ k ∧ k ≤ 17) → M2 k i = nc M k i) (n : RCn S2 M2) : RC S2 M2 := by
  have f : ∀ {k : Nat} (i : Int), ¬ (15 ≤ k ∧ k ≤ 17) → k ≠ 8 → M2 k i = M k i := fun i e e8 => (hM _ i e).trans (nc_fr M i e8)
  exact RC_nt h (fun k i e => hS k i (by omega)) (fun k i e => f i (by omega) (by omega)) (hM 8 9 (by omega)) (hM 8 10 (by omega)) (RCt_cg (fun k i e => hS k i (by have := of_decide_eq_true e; omega)) (fun k i e => f i (by have := of_decide_eq_true e; omega) (by have := of_decide_eq_true e; omega)) h.1) n
theorem RC_pe {S M : ax_M} {p w v : Int} (h : RC S M) (hp : 0 ≤ p ∧ p ≤ 7) (hw : 0 ≤ w ∧ w ≤ 3) : RC (if w = 0 then ms S 55 p v else if w = 1 then ms S 56 p v else if w = 2 then ms S 57 p v else ms S 58 p v) (ms (nc M) 15 (p * 4 + w) v) := by
  obtain ⟨n1, n2, n3⟩ := h.2.1
  rcases (show w = 0 ∨ w = 1 ∨ w = 2 ∨ w = 3 by omega) with rfl | rfl | rfl | rfl
  all_goals
    refine RC_ni h ?_ (fun k i e => ms_k (by omega)) ⟨fun q a b => ?_, n2, n3⟩
    · intro k i e
      first | exact ms_k (by omega)
    · have z := n1 q a b
      refine ⟨?_, ?_, ?_, ?_⟩
      all_goals
        rw [ms_e]
        by_cases c : q = p
        · subst c
          first
          | (rw [if_pos rfl]; exact (ms_at _ _ _ _).symm)
          | (rw [if_neg (by omega)]; first | exact z.1 | exact z.2.1 | exact z.2.2.1 | exact z.2.2.2)
        · rw [if_neg (by omega)]
          first
          | exact z.1
          | exact z.2.1
          | exact z.2.2.1
          | exact z.2.2.2
          | exact z.1.trans (ms_off c).symm
          | exact z.2.1.trans (ms_off c).symm
          | exact z.2.2.1.trans (ms_off c).symm
          | exact z.2.2.2.trans (ms_off c).symm
theorem RC_we {S M : ax_M} {x v : Int} (h : RC S M) : RC (ms S 59 x v) (ms (nc M) 16 x v) := by
  obtain ⟨n1, n2, n3⟩ := h.2.1
  refine RC_ni h (fun k i e => ms_k (by omega)) (fun k i e => ms_k (by omega)) ⟨n1, fun q a b => ?_, n3⟩
  rw [ms_e, ms_e]
  split
  · rfl
  · exact n2 q a b
theorem RC_se {S M : ax_M} {x v : Int} (h : RC S M) : RC (ms S 60 x v) (ms (nc M) 17 x v) := by
  obtain ⟨n1, n2, n3⟩ := h.2.1
  refine RC_ni h (fun k i e => ms_k (by omega)) (fun k i e => ms_k (by omega)) ⟨n1, n2, fun q a b => ?_⟩
  rw [ms_e, ms_e]
  split
  · rfl
  · exact n3 q a b
theorem mo_tkD (M : ax_M) (b : Int) : mo M (tkD (nc M) b) := fun k i e => (tkD_fr (nc M) b i (decide_eq_false (by omega))).trans (nc_fr M i (by omega))
theorem mo_tkR (M : ax_M) (b : Int) : mo M (tkR (nc M) b) := fun k i e => (tkR_fr (nc M) b i (decide_eq_false (by omega))).trans (nc_fr M i (by omega))
theorem mo_clD (M : ax_M) : mo M (clD (nc M)) := fun k i e => (clD_fr (nc M) i (decide_eq_false (by omega))).trans (nc_fr M i (by omega))
theorem mo_clR (M : ax_M) : mo M (clR (nc M)) := fun k i e => (clR_fr (nc M) i (decide_eq_false (by omega))).trans (nc_fr M i (by omega))
theorem mo_nc (M : ax_M) : mo M (nc M) := fun k i e => nc_fr M i (by omega)
theorem tm_v {w : Int} (h : 0 ≤ w ∧ w ≤ 3) : ax_tm w.toNat = pmx w ∧ 0 ≤ pmx w ∧ pmx w ≤ 99 := by
  rcases (show w = 0 ∨ w = 1 ∨ w = 2 ∨ w = 3 by omega) with rfl | rfl | rfl | rfl <;> decide
theorem sm_v {w : Int} (h : 0 ≤ w ∧ w ≤ 3) : ax_sm w.toNat = smx w ∧ 0 ≤ smx w ∧ smx w ≤ 999 := by
  rcases (show w = 0 ∨ w = 1 ∨ w = 2 ∨ w = 3 by omega) with rfl | rfl | rfl | rfl <;> decide
theorem RC_r5 {S M : ax_M} (hg : RG M) (h : RC S M) (k : Int) (hk : 0 ≤ k ∧ k ≤ 3) : (vw S 53 k = 0 ∨ vw S 53 k = 1) ∧ (vw S 54 k = 0 ∨ vw S 54 k = 1) := by
  have z := h.1.2.2.2 k hk.1 (by omega)
  have a := hg.at (sa_31.2.2 k)
  have c := hg.at (sa_32.2.2 k)
  rw [z.2.1] at a
  rw [z.2.2] at c
  show ((if qr S 5 2 = -1 then qr S 31 k else 0) = 0 ∨ (if qr S 5 2 = -1 then qr S 31 k else 0) = 1) ∧ ((if qr S 5 2 = -1 then qr S 32 k else 0) = 0 ∨ (if qr S 5 2 = -1 then qr S 32 k else 0) = 1)
  have a : 0 ≤ qr S 31 k ∧ qr S 31 k ≤ 1 := a
  have c : 0 ≤ qr S 32 k ∧ qr S 32 k ≤ 1 := c
  split <;> omega
