/-! pairs and sheets -/
theorem RC_sh {S S2 M M2 : ax_M} (h : RC S M) (hS : ∀ k i, ¬ (k = 9 ∧ i = 38) → ¬ (70 ≤ k ∧ k ≤ 73) → S2 k i = S k i) (hM : ∀ k i, k ≠ 6 → ¬ (34 ≤ k ∧ k ≤ 39) → M2 k i = M k i) (s : RCs S2 M2) : RC S2 M2 := by
  refine ⟨RCt_cg (fun k i e => hS k i (by have := of_decide_eq_true e; omega) (by have := of_decide_eq_true e; omega)) (fun k i e => hM k i (by have := of_decide_eq_true e; omega) (by have := of_decide_eq_true e; omega)) h.1, RCn_cg (fun k i e => hS k i (by have := of_decide_eq_true e; omega) (by have := of_decide_eq_true e; omega)) (fun k i e => hM k i (by have := of_decide_eq_true e; omega) (by have := of_decide_eq_true e; omega)) h.2.1, RCp_cg (hS 9 30 (by decide) (by decide)) (fun _ => hS 68 _ (by omega) (by decide)) (fun _ => hS 69 _ (by omega) (by decide)) (fun k i e => hM k i (by have := of_decide_eq_true e; omega) (by have := of_decide_eq_true e; omega)) h.2.2.1, RCg_cg (hS 9 26 (by decide) (by decide)) (funext fun _ => hS 65 _ (by omega) (by decide)) (funext fun _ => hS 66 _ (by omega) (by decide)) (funext fun _ => hS 67 _ (by omega) (by decide)) (fun k i e => hM k i (by have := of_decide_eq_true e; omega) (by have := of_decide_eq_true e; omega)) h.2.2.2.1, s, RCo_cg (fun k i e => hS k i (by have := of_decide_eq_true e; omega) (by have := of_decide_eq_true e; omega)) (fun k i e => hS k i (by have := of_decide_eq_true e; omega) (by have := of_decide_eq_true e; omega)) (fun k i e => hM k i (by have := of_decide_eq_true e; omega) (by have := of_decide_eq_true e; omega)) h.2.2.2.2.2⟩
theorem RC_pp {S S2 M M2 : ax_M} (h : RC S M) (hS : ∀ k i, ¬ (k = 9 ∧ i = 30) → ¬ (68 ≤ k ∧ k ≤ 69) → S2 k i = S k i) (hM : ∀ k i, k ≠ 3 → ¬ (24 ≤ k ∧ k ≤ 25) → M2 k i = M k i) (s : RCp S2 M2) : RC S2 M2 := by
  refine ⟨RCt_cg (fun k i e => hS k i (by have := of_decide_eq_true e; omega) (by have := of_decide_eq_true e; omega)) (fun k i e => hM k i (by have := of_decide_eq_true e; omega) (by have := of_decide_eq_true e; omega)) h.1, RCn_cg (fun k i e => hS k i (by have := of_decide_eq_true e; omega) (by have := of_decide_eq_true e; omega)) (fun k i e => hM k i (by have := of_decide_eq_true e; omega) (by have := of_decide_eq_true e; omega)) h.2.1, s, RCg_cg (hS 9 26 (by decide) (by decide)) (funext fun _ => hS 65 _ (by omega) (by decide)) (funext fun _ => hS 66 _ (by omega) (by decide)) (funext fun _ => hS 67 _ (by omega) (by decide)) (fun k i e => hM k i (by have := of_decide_eq_true e; omega) (by have := of_decide_eq_true e; omega)) h.2.2.2.1, RCs_cg (hS 9 38 (by decide) (by decide)) (fun _ => hS 70 _ (by omega) (by decide)) (fun _ => hS 71 _ (by omega) (by decide)) (fun _ => hS 72 _ (by omega) (by decide)) (fun _ => hS 73 _ (by omega) (by decide)) (fun k i e => hM k i (by have := of_decide_eq_true e; omega) (by have := of_decide_eq_true e; omega)) h.2.2.2.2.1, RCo_cg (fun k i e => hS k i (by have := of_decide_eq_true e; omega) (by have := of_decide_eq_true e; omega)) (fun k i e => hS k i (by have := of_decide_eq_true e; omega) (by have := of_decide_eq_true e; omega)) (fun k i e => hM k i (by have := of_decide_eq_true e; omega) (by have := of_decide_eq_true e; omega)) h.2.2.2.2.2⟩
theorem RC_pg {S S2 M M2 : ax_M} (h : RC S M) (hS : ∀ k i, ¬ (k = 9 ∧ i = 26) → ¬ (65 ≤ k ∧ k ≤ 67) → S2 k i = S k i) (hM : ∀ k i, k ≠ 7 → ¬ (40 ≤ k ∧ k ≤ 43) → M2 k i = M k i) (s : RCg S2 M2) : RC S2 M2 := by
  refine ⟨RCt_cg (fun k i e => hS k i (by have := of_decide_eq_true e; omega) (by have := of_decide_eq_true e; omega)) (fun k i e => hM k i (by have := of_decide_eq_true e; omega) (by have := of_decide_eq_true e; omega)) h.1, RCn_cg (fun k i e => hS k i (by have := of_decide_eq_true e; omega) (by have := of_decide_eq_true e; omega)) (fun k i e => hM k i (by have := of_decide_eq_true e; omega) (by have := of_decide_eq_true e; omega)) h.2.1, RCp_cg (hS 9 30 (by decide) (by decide)) (fun _ => hS 68 _ (by omega) (by decide)) (fun _ => hS 69 _ (by omega) (by decide)) (fun k i e => hM k i (by have := of_decide_eq_true e; omega) (by have := of_decide_eq_true e; omega)) h.2.2.1, s, RCs_cg (hS 9 38 (by decide) (by decide)) (fun _ => hS 70 _ (by omega) (by decide)) (fun _ => hS 71 _ (by omega) (by decide)) (fun _ => hS 72 _ (by omega) (by decide)) (fun _ => hS 73 _ (by omega) (by decide)) (fun k i e => hM k i (by have := of_decide_eq_true e; omega) (by have := of_decide_eq_true e; omega)) h.2.2.2.2.1, RCo_cg (fun k i e => hS k i (by have := of_decide_eq_true e; omega) (by have := of_decide_eq_true e; omega)) (fun k i e => hS k i (by have := of_decide_eq_true e; omega) (by have := of_decide_eq_true e; omega)) (fun k i e => hM k i (by have := of_decide_eq_true e; omega) (by have := of_decide_eq_true e; omega)) h.2.2.2.2.2⟩
theorem ms_o2 {M : ax_M} {k k' : Nat} {i i' v : Int} (h : ¬ (k' = k ∧ i' = i)) : ms M k i v k' i' = M k' i' := by
  unfold ms
  rw [if_neg h]
theorem RC_mee {S M : ax_M} (f : Int) (h : RC S M) : RC (mee S f) (ms M 6 3 f) :=
  RC_sh h (fun k i a _ => ms_o2 a) (fun k i a _ => ms_k a) ⟨(ms_at M 6 3 f).trans (ms_at S 9 38 f).symm, fun s a b => by
    have z := h.2.2.2.2.1.2 s a b
    refine ⟨z.1, z.2.1, fun i x y => ?_⟩
    rw [ms_k (by omega)]
    exact z.2.2 i x y⟩
theorem RC_aft {S M : ax_M} (d e : Int) (h : RC S M) : RC (ms (ms (ms S 68 (S 9 30) d) 69 (S 9 30) e) 9 30 (S 9 30 + 1)) (paM M d e) := by
  have n : M 3 0 = S 9 30 := h.2.2.1.1
  unfold paM
  rw [n]
  refine RC_pp h (fun k i a b => ?_) (fun k i a b => ?_) ⟨rfl, fun i a b => ?_⟩
  · rw [ms_o2 a, ms_k (by omega), ms_k (by omega)]
  · rw [ms_k a, ms_k (by omega), ms_k (by omega)]
  · have b : i < S 9 30 + 1 := b
    show ms M 24 (S 9 30) d 24 i = ms S 68 (S 9 30) d 68 i ∧ ms M 25 (S 9 30) e 25 i = ms S 69 (S 9 30) e 69 i
    rw [ms_e, ms_e, ms_e, ms_e]
    by_cases q : i = S 9 30
    · rw [if_pos q, if_pos q, if_pos q, if_pos q]; exact ⟨rfl, rfl⟩
    · rw [if_neg q, if_neg q, if_neg q, if_neg q]; exact h.2.2.1.2 i a (by omega)
theorem RC_fp {S M : ax_M} (h : RC S M) : RC (ms S 9 30 0) (ms M 3 0 0) :=
  RC_pp h (fun k i a _ => ms_o2 a) (fun k i a _ => ms_k a) ⟨rfl, fun i a b => absurd (show i < 0 from b) (by omega)⟩
theorem RC_fg {S M : ax_M} (h : RC S M) : RC (ms S 9 26 0) (ms (ms M 7 0 0) 7 6 1) :=
  RC_pg h (fun k i a _ => ms_o2 a) (fun k i a _ => by rw [ms_k a, ms_k a]) ⟨rfl, fun i a b => absurd (show i < 0 from b) (by omega), fun z => absurd (show (1 : Int) = 0 from z) (by decide)⟩
theorem RC_drop {S M : ax_M} {s : Int} (h : RC S M) : RC (ms S 70 s 0) (ms M 38 s (-1)) :=
  RC_sh h (fun k i _ a => ms_k (by omega)) (fun k i _ a => ms_k (by omega)) ⟨h.2.2.2.2.1.1, fun t a b => by
    have z := h.2.2.2.2.1.2 t a b
    refine ⟨?_, z.2.1, fun i x y => ?_⟩
    · show ms M 38 s (-1) 38 t = (if ms S 70 s 0 70 t = 0 then -1 else S 71 t)
      rw [ms_e, ms_e]
      by_cases q : t = s
      · rw [if_pos q, if_pos q, if_pos rfl]
      · rw [if_neg q, if_neg q]; exact z.1
    · rw [ms_k (by omega)]; exact z.2.2 i x y⟩
theorem RCs_row {S M : ax_M} {s i v : Int} (hs : 0 ≤ s ∧ s ≤ 3) (hi : 0 ≤ i ∧ i < 60) (h : RCs S M) : RCs (ms S 73 (60 * s + i) v) (ms M (34 + s.toNat) i v) := by
  refine ⟨(ms_k (by omega)).trans h.1, fun t a b => ?_⟩
  have z := h.2 t a b
  refine ⟨?_, ?_, fun j x y => ?_⟩
  · rw [ms_k (by omega)]; exact z.1
  · rw [ms_k (by omega)]; exact z.2.1
  · by_cases q : t = s ∧ j = i
    · obtain ⟨rfl, rfl⟩ := q
      rw [ms_at, ms_at]
    · rw [ms_o2 (by omega), ms_off (by omega)]
      exact z.2.2 j x y
theorem RC_store {S M : ax_M} {s i v : Int} (hs : 0 ≤ s ∧ s ≤ 3) (hi : 0 ≤ i ∧ i < 60) (n : S 70 s ≠ 0) (h : RC S M) : RC (kpS S s i v) (ms M (34 + s.toNat) i (stV M s v)) := by
  have e : stV M s v = kpV S s v := by
    unfold stV kpV
    rw [(h.2.2.2.2.1.2 s hs.1 hs.2).1, if_neg n]
  unfold kpS
  rw [e]
  exact RC_sh h (fun k i _ a => ms_k (by omega)) (fun k i _ a => ms_k (by omega)) (RCs_row hs hi h.2.2.2.2.1)
theorem zr_frS (S : ax_M) (s n : Int) (hn : 0 ≤ n) {k : Nat} (hk : k ≠ 73) (i : Int) : zer S s n k i = S k i :=
  itI_inv (f := fun i S1 => ms S1 73 (60 * s + i) 0) (a := S) (p := n) (fun (_ : Int) (N : ax_M) => N k i = S k i) hn rfl (fun j N _ _ w => (ms_k hk).trans w)
theorem rn_frM (M : ax_M) (s n : Int) (hn : 0 ≤ n) {k : Nat} (hk : k ≠ 34 + s.toNat) (i : Int) : rnR M s n k i = M k i :=
  itI_inv (f := fun i M1 => ms M1 (34 + s.toNat) i 0) (a := M) (p := n) (fun (_ : Int) (N : ax_M) => N k i = M k i) hn rfl (fun j N _ _ w => (ms_k hk).trans w)
theorem RC_ren {S M : ax_M} {s f n : Int} (hs : 0 ≤ s ∧ s ≤ 3) (h : RC S M) : RC (zer (ms (ms (ms S 70 s 1) 71 s f) 72 s n) s 60) (rnR (ms (ms M 38 s f) 39 s n) s 60) := by
  have b : RCs (ms (ms (ms S 70 s 1) 71 s f) 72 s n) (ms (ms M 38 s f) 39 s n) := by
    refine ⟨h.2.2.2.2.1.1, fun t x y => ?_⟩
    have z := h.2.2.2.2.1.2 t x y
    refine ⟨?_, ?_, fun j u w => ?_⟩
    · show ms M 38 s f 38 t = (if ms S 70 s 1 70 t = 0 then -1 else ms S 71 s f 71 t)
      rw [ms_e, ms_e, ms_e]
      by_cases q : t = s
      · rw [if_pos q, if_pos q, if_pos q, if_neg (by decide)]
      · rw [if_neg q, if_neg q, if_neg q]; exact z.1
    · show ms M 39 s n 39 t = ms S 72 s n 72 t
      rw [ms_e, ms_e]
      by_cases q : t = s
      · rw [if_pos q, if_pos q]
      · rw [if_neg q, if_neg q]; exact z.2.1
    · rw [ms_k (by omega), ms_k (by omega)]
      exact z.2.2 j u w
  have key : ∀ m : Nat, m ≤ 60 → RCs (zer (ms (ms (ms S 70 s 1) 71 s f) 72 s n) s m) (rnR (ms (ms M 38 s f) 39 s n) s m) := by
    intro m
    induction m with
    | zero => intro _; exact b
    | succ m ih =>
      intro hm
      have e1 : zer (ms (ms (ms S 70 s 1) 71 s f) 72 s n) s ((m : Int) + 1) = ms (zer (ms (ms (ms S 70 s 1) 71 s f) 72 s n) s m) 73 (60 * s + m) 0 := itI_s _ _ (by omega)
      have e2 : rnR (ms (ms M 38 s f) 39 s n) s ((m : Int) + 1) = ms (rnR (ms (ms M 38 s f) 39 s n) s m) (34 + s.toNat) m 0 := itI_s _ _ (by omega)
      rw [show ((m + 1 : Nat) : Int) = (m : Int) + 1 by omega, e1, e2]
      exact RCs_row hs (by omega) (ih (by omega))
  refine RC_sh h (fun k i a c => ?_) (fun k i a c => ?_) (key 60 (by decide))
  · rw [zr_frS _ _ _ (by decide) (by omega), ms_k (by omega), ms_k (by omega), ms_k (by omega)]
  · rw [rn_frM _ _ _ (by decide) (by omega), ms_k (by omega), ms_k (by omega)]
theorem RC_70 {S M : ax_M} (sr : SR S) (h : RC S M) {s : Int} (hs : 0 ≤ s ∧ s ≤ 3) : (M 38 s = -1 ↔ S 70 s = 0) ∧ (S 70 s ≠ 0 → M 38 s = S 71 s) ∧ M 39 s = S 72 s := by
  have z := h.2.2.2.2.1.2 s hs.1 hs.2
  have b := (sr 71 s rfl).1
  have b : 0 ≤ S 71 s := b
  refine ⟨?_, fun n => by rw [z.1, if_neg n], z.2.1⟩
  rw [z.1]
  split <;> omega
theorem fnd_eq {S M : ax_M} (sr : SR S) (h : RC S M) {s f i : Int} (hs : 0 ≤ s ∧ s ≤ 3) : fndC M s f i = lkV S s f i := by
  have z := RC_70 sr h hs
  unfold fndC lkV
  rw [z.2.2]
  by_cases q : S 70 s = 0
  · rw [if_pos (z.1.mpr q), if_pos q]
  · rw [if_neg (fun w => q (z.1.mp w)), if_neg q, z.2.1 q]
theorem RC_copy {S M : ax_M} {s i t j n : Int} (hs : 0 ≤ s ∧ s ≤ 3) (ht : 0 ≤ t ∧ t ≤ 3) (hi : 0 ≤ i ∧ i + n ≤ 60) (hj : 0 ≤ j ∧ j + n ≤ 60) (hn : 0 ≤ n) (h : RC S M) : RC (mc S 73 (60 * s + i) 73 (60 * t + j) n) (mc M (34 + s.toNat) i (34 + t.toNat) j n) := by
  have eS : ∀ (k : Nat) x, k ≠ 73 → mc S 73 (60 * s + i) 73 (60 * t + j) n k x = S k x := fun k x q => congrFun (mc_ne q) x
  have eM : ∀ (k : Nat) x, k ≠ 34 + t.toNat → mc M (34 + s.toNat) i (34 + t.toNat) j n k x = M k x := fun k x q => congrFun (mc_ne q) x
  refine RC_sh h (fun k x _ a => eS k x (by omega)) (fun k x _ a => eM k x (by omega)) ⟨(eM 6 3 (by omega)).trans h.2.2.2.2.1.1, fun u a b => ?_⟩
  have z := h.2.2.2.2.1.2 u a b
  refine ⟨?_, ?_, fun x x0 x1 => ?_⟩
  · rw [eM 38 u (by omega)]; exact z.1
  · rw [eM 39 u (by omega)]; exact z.2.1
  · unfold mc
    by_cases q : u = t ∧ j ≤ x ∧ x < j + n
    · rw [if_pos (by omega), if_pos (by omega)]
      rw [(h.2.2.2.2.1.2 s hs.1 hs.2).2.2 _ (by omega) (by omega)]
      congr 1
      omega
    · rw [if_neg (by omega), if_neg (by omega)]
      exact z.2.2 x x0 x1
theorem mo_ren (M : ax_M) (s f n : Int) (hs : 0 ≤ s ∧ s ≤ 3) : mo M (rnR (ms (ms M 38 s f) 39 s n) s 60) := fun k i e => by
  rw [rn_frM _ _ _ (by decide) (by omega), ms_k (by omega), ms_k (by omega)]
theorem mo_mc (M : ax_M) (a b : Nat) (i j n : Int) (hb : b ≠ 9 ∧ b < 45) : mo M (mc M a i b j n) := fun k x e => congrFun (mc_ne (by omega)) x
theorem fnd_r (M : ax_M) (s f i : Int) : 0 ≤ fndC M s f i ∧ fndC M s f i ≤ 3 := by
  unfold fndC
  repeat' split
  all_goals omega
theorem lk_60 {S : ax_M} (sr : SR S) {s f i : Int} (h : lkV S s f i = 0) : S 70 s ≠ 0 ∧ 0 ≤ i ∧ i < 60 := by
  have b : S 72 s ≤ 60 := (sr 72 s rfl).2
  unfold lkV at h
  split at h
  · cases h
  · split at h
    · cases h
    · split at h
      · next q1 _ q => exact ⟨q1, q.1, by omega⟩
      · cases h
theorem cl_eq {S M : ax_M} (h : RC S M) {a b : Int} (ha : 0 ≤ a ∧ a < S 9 26) (hb : 0 ≤ b ∧ b < S 9 26) : clB M a b = arF S a b := by
  have x := (h.2.2.2.1.2.1 a ha.1 ha.2).1
  have y := (h.2.2.2.1.2.1 b hb.1 hb.2).1
  unfold clB arF
  rw [x.1, x.2.1, x.2.2, y.1, y.2.1, y.2.2]
