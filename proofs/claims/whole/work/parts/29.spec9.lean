/-! what holds of every reading of DEEDS and RULES -/
def CI (q : ax_M) : Prop := (0 ≤ q 0 8 ∧ q 0 8 ≤ 8) ∧ (0 ≤ q 0 9 ∧ q 0 9 ≤ 4) ∧ (∀ d, (0 ≤ q 10 d ∧ q 10 d ≤ 3) ∧ (0 ≤ q 11 d ∧ q 11 d ≤ 5) ∧ (0 ≤ q 12 d ∧ q 12 d ≤ 1) ∧ (0 ≤ q 13 d ∧ q 13 d ≤ 9) ∧ (0 ≤ q 14 d ∧ q 14 d ≤ 255)) ∧ (∀ d, 0 ≤ d → d < q 0 8 → q 14 d ≠ 0)
theorem ms_e (M : ax_M) (k : Nat) (i v j : Int) : ms M k i v k j = if j = i then v else M k j := by simp [ms]
theorem CI_f {q : ax_M} (j v : Int) (h8 : j ≠ 8) (h9 : j ≠ 9) (h : CI q) : CI (ms q 0 j v) := by
  obtain ⟨a, b, c, d⟩ := h
  have e8 : ms q 0 j v 0 8 = q 0 8 := ms_off (Ne.symm h8)
  have e9 : ms q 0 j v 0 9 = q 0 9 := ms_off (Ne.symm h9)
  refine ⟨by rw [e8]; exact a, by rw [e9]; exact b, c, fun k k0 k1 => d k k0 (by rw [e8] at k1; exact k1)⟩
theorem CI_9 {q : ax_M} (v : Int) (hv : 0 ≤ v ∧ v ≤ 4) (h : CI q) : CI (ms q 0 9 v) := by
  obtain ⟨a, b, c, d⟩ := h
  exact ⟨a, by rw [ms_at]; exact hv, c, d⟩
theorem CI_8 {q : ax_M} (hn : q 0 8 < 8) (hw : q 14 (q 0 8) ≠ 0) (h : CI q) : CI (ms q 0 8 (q 0 8 + 1)) := by
  obtain ⟨a, b, c, d⟩ := h
  refine ⟨by rw [ms_at]; omega, b, c, fun k k0 k1 => ?_⟩
  rw [ms_at] at k1
  rcases Int.lt_or_eq_of_le (show k ≤ q 0 8 by omega) with z | z
  · exact d k k0 z
  · rw [z]; exact hw
theorem CI_10 {q : ax_M} (i v : Int) (hv : 0 ≤ v ∧ v ≤ 3) (h : CI q) : CI (ms q 10 i v) := by
  obtain ⟨a, b, c, d⟩ := h
  refine ⟨a, b, fun k => ⟨?_, (c k).2⟩, d⟩
  rw [ms_e]
  split
  · exact hv
  · exact (c k).1
theorem CI_11 {q : ax_M} (i v : Int) (hv : 0 ≤ v ∧ v ≤ 5) (h : CI q) : CI (ms q 11 i v) := by
  obtain ⟨a, b, c, d⟩ := h
  refine ⟨a, b, fun k => ⟨(c k).1, ?_, (c k).2.2⟩, d⟩
  rw [ms_e]
  split
  · exact hv
  · exact (c k).2.1
theorem CI_12 {q : ax_M} (i v : Int) (hv : 0 ≤ v ∧ v ≤ 1) (h : CI q) : CI (ms q 12 i v) := by
  obtain ⟨a, b, c, d⟩ := h
  refine ⟨a, b, fun k => ⟨(c k).1, (c k).2.1, ?_, (c k).2.2.2⟩, d⟩
  rw [ms_e]
  split
  · exact hv
  · exact (c k).2.2.1
theorem CI_13 {q : ax_M} (i v : Int) (hv : 0 ≤ v ∧ v ≤ 9) (h : CI q) : CI (ms q 13 i v) := by
  obtain ⟨a, b, c, d⟩ := h
  refine ⟨a, b, fun k => ⟨(c k).1, (c k).2.1, (c k).2.2.1, ?_, (c k).2.2.2.2⟩, d⟩
  rw [ms_e]
  split
  · exact hv
  · exact (c k).2.2.2.1
theorem CI_14 {q : ax_M} (v : Int) (hv : 0 ≤ v ∧ v ≤ 255) (h : CI q) : CI (ms q 14 (q 0 8) v) := by
  obtain ⟨a, b, c, d⟩ := h
  refine ⟨a, b, fun k => ⟨(c k).1, (c k).2.1, (c k).2.2.1, (c k).2.2.2.1, ?_⟩, fun k k0 k1 => ?_⟩
  · rw [ms_e]
    split
    · exact hv
    · exact (c k).2.2.2.2
  · have k1 : k < q 0 8 := k1
    rw [ms_e, if_neg (by omega)]
    exact d k k0 k1
theorem goM_CI {q : ax_M} (b : Int) (h : CI q) : CI (goM q b) := by
  have c9 : 0 ≤ q 0 9 ∧ q 0 9 ≤ 4 := h.2.1
  unfold goM
  split
  · exact h
  · next h8 =>
    split
    · next e =>
      have kr := kV_r b
      unfold tiM
      split
      · exact CI_14 0 (by omega) h
      · refine CI_9 _ ?_ (CI_10 _ _ (by omega) (CI_14 0 (by omega) h))
        show 0 ≤ q 0 9 + 1 ∧ q 0 9 + 1 ≤ 4
        omega
    · split
      · next e =>
        have fr := fgV_r (b := b) (lo := 0) (up := 5)
        unfold tiM
        split
        · exact h
        · refine CI_9 _ ?_ (CI_11 _ _ (by omega) h)
          show 0 ≤ q 0 9 + 1 ∧ q 0 9 + 1 ≤ 4
          omega
      · split
        · next e =>
          have fr := wtV_r (b := b)
          unfold tiM
          split
          · exact h
          · refine CI_9 _ ?_ (CI_12 _ _ (by omega) h)
            show 0 ≤ q 0 9 + 1 ∧ q 0 9 + 1 ≤ 4
            omega
        · split
          · next e =>
            have fr := fgV_r (b := b) (lo := 1) (up := 9)
            unfold tiM
            split
            · exact h
            · refine CI_9 _ ?_ (CI_13 _ _ (by omega) h)
              show 0 ≤ q 0 9 + 1 ∧ q 0 9 + 1 ≤ 4
              omega
          · unfold twM
            split
            · next e => exact CI_9 0 (by omega) (CI_8 (by omega) e.2 h)
            · split
              · next e =>
                refine CI_14 _ ?_ h
                have w := (h.2.2.1 (q 0 8)).2.2.2.2
                have p1 := p2_pos (b - 65)
                have p2' := p2_le (a := b - 65) (b := 7) (by omega)
                have p3 : p2 7 = 128 := rfl
                have := nO_lt (a := q 14 (q 0 8)) (b := p2 (b - 65)) 8 ⟨w.1, by show _ < (256 : Int); omega⟩ ⟨by omega, by show _ < (256 : Int); omega⟩
                have e8 : ((2 ^ 8 : Nat) : Int) = 256 := rfl
                omega
              · exact h
theorem tk1_CI {q : ax_M} (b : Int) (h : CI q) : CI (tk1 q b) := by
  unfold tk1
  split
  · split
    · exact goM_CI b h
    · exact CI_f 10 _ (by decide) (by decide) (goM_CI b h)
  · exact h
theorem tkD_CI {q : ax_M} (b : Int) (h : CI q) : CI (tkD q b) := CI_f 6 _ (by decide) (by decide) (CI_f 7 _ (by decide) (by decide) (CI_f 5 _ (by decide) (by decide) (tk1_CI b h)))
theorem q0_CI : CI q0 := ⟨⟨by decide, by decide⟩, ⟨by decide, by decide⟩, fun d => ⟨⟨Int.le_refl _, (by show (0 : Int) ≤ 3; decide)⟩, ⟨Int.le_refl _, (by show (0 : Int) ≤ 5; decide)⟩, ⟨Int.le_refl _, (by show (0 : Int) ≤ 1; decide)⟩, ⟨Int.le_refl _, (by show (0 : Int) ≤ 9; decide)⟩, ⟨Int.le_refl _, (by show (0 : Int) ≤ 255; decide)⟩⟩, fun d h0 h1 => absurd h1 (by show ¬ d < 0; omega)⟩
theorem dq_CI (t : Int → Int) {n : Int} (hn : 0 ≤ n) : CI (dq t n) := by
  unfold dq
  exact itI_inv (fun _ q => CI q) hn q0_CI (fun i q _ _ w => tkD_CI _ w)
/-- DEEDS as they are read: how many, and each of them -/
theorem dq_sz (t : Int → Int) {n : Int} (hn : 0 ≤ n) : dq t n 0 6 = 0 ∨ (dq t n 0 6 = dq t n 0 8 + 1 ∧ dq t n 0 8 < 8 ∧ dq t n 0 9 = 4 ∧ dq t n 14 (dq t n 0 8) ≠ 0) := by
  rcases Int.lt_or_eq_of_le hn with q | q
  · obtain ⟨m, rfl⟩ : ∃ m, n = m + 1 := ⟨n - 1, by omega⟩
    have hb := dq_by t (i := m) (by omega)
    rw [dq_s t (by omega)]
    generalize dq t m = q at hb ⊢
    generalize t m = b
    rw [tkD_sz, tkD_now, tkD_st, tkD_14]
    have hfl := tkD_fl q b
    by_cases w : tkD q b 0 7 = -1
    · rw [if_pos w]
      right
      refine ⟨rfl, ?_⟩
      rw [w] at hfl
      split at hfl
      · next z =>
        rcases z with z | z
        · exact absurd hfl.symm z
        · exact z
      · omega
    · rw [if_neg w]; left; rfl
  · subst q; left; rfl
theorem dq_fr (t : Int → Int) {n : Int} (hn : 0 ≤ n) : -1 ≤ dq t n 0 7 ∧ dq t n 0 7 ≤ n := by
  have key := itI_inv (f := fun i q => tkD q (t i)) (a := q0) (p := n) (fun (i : Int) (q : ax_M) => q 0 5 = i ∧ (-1 ≤ q 0 10 ∧ q 0 10 ≤ i) ∧ (-1 ≤ q 0 7 ∧ q 0 7 ≤ i)) hn ⟨rfl, ⟨by decide, by decide⟩, ⟨by decide, by decide⟩⟩ (fun i q h0 h1 w => by
    obtain ⟨w1, w2, w3⟩ := w
    have e9 : -1 ≤ tk1 q (t i) 0 10 ∧ tk1 q (t i) 0 10 ≤ i := by
      unfold tk1
      split
      · split
        · rw [goM_br]; exact w2
        · show -1 ≤ goM q (t i) 0 5 ∧ goM q (t i) 0 5 ≤ i
          rw [goM_5]; omega
      · exact w2
    refine ⟨by rw [tkD_by, w1], by rw [tkD_br]; omega, ?_⟩
    rw [tkD_fl]
    split <;> omega)
  have e : itI (fun i q => tkD q (t i)) q0 n = dq t n := rfl
  rw [e] at key
  exact key.2.2
theorem rq_par (t : Int → Int) {n : Int} (hn : 0 ≤ n) : (0 ≤ rq t n 5 6 ∧ rq t n 5 6 ≤ n) ∧ (0 ≤ rq t n 5 1 ∧ rq t n 5 1 ≤ n) := by
  have key := itI_inv (f := fun i q => tkR q (t i)) (a := q0) (p := n) (fun (i : Int) (q : ax_M) => (0 ≤ q 5 6 ∧ q 5 6 ≤ i) ∧ (0 ≤ q 5 1 ∧ q 5 1 ≤ i)) hn ⟨⟨by decide, by decide⟩, ⟨by decide, by decide⟩⟩ (fun i q h0 h1 w => by
    have eb : ∀ b, rgM q b 5 6 = q 5 6 ∨ rgM q b 5 6 = q 5 6 + 1 := fun b => by
      unfold rgM rkM rnM rmM
      repeat (first | (left; rfl) | (right; rfl) | split)
    have e9 : 0 ≤ rk1 q (t i) 5 6 ∧ rk1 q (t i) 5 6 ≤ i + 1 := by
      have z := eb (t i)
      unfold rk1
      split
      · split
        · omega
        · show 0 ≤ rgM q (t i) 5 6 ∧ rgM q (t i) 5 6 ≤ i + 1
          omega
      · omega
    refine ⟨by rw [tkR_be]; exact e9, ?_⟩
    rw [tkR_pa]
    split <;> omega)
  exact key
/-- the state's lasting cells keep their bounds -/
def SR (S : ax_M) : Prop := ∀ k i, isB k i = true → (bd k i).1 ≤ S k i ∧ S k i ≤ (bd k i).2
theorem SR_of {S M : ax_M} (h : bs S M) (hg : RG M) : SR S := fun k i e => by
  rw [← h k i e]
  exact hg k i
theorem SR.n0 {S : ax_M} (h : SR S) : 0 ≤ S 45 0 ∧ S 45 0 ≤ 80 := h 45 0 rfl
theorem SR.n1 {S : ax_M} (h : SR S) : 0 ≤ S 45 1 ∧ S 45 1 ≤ 80 := h 45 1 rfl
theorem vw_n8 {S : ax_M} (h : SR S) : 0 ≤ vw S 9 2 ∧ vw S 9 2 ≤ 8 := by
  show 0 ≤ qd S 0 6 ∧ qd S 0 6 ≤ 8
  have c : CI (qd S) := dq_CI (t0 S) h.n0.1
  have s : qd S 0 6 = 0 ∨ (qd S 0 6 = qd S 0 8 + 1 ∧ qd S 0 8 < 8 ∧ qd S 0 9 = 4 ∧ qd S 14 (qd S 0 8) ≠ 0) := dq_sz (t0 S) h.n0.1
  have c1 : 0 ≤ qd S 0 8 ∧ qd S 0 8 ≤ 8 := c.1
  omega
theorem vw_50 {S : ax_M} (h : SR S) (d : Int) : 0 ≤ vw S 50 d ∧ vw S 50 d ≤ 9 := ((dq_CI (t0 S) h.n0.1).2.2.1 d).2.2.2.1
theorem vw_47 {S : ax_M} (h : SR S) (d : Int) : 0 ≤ vw S 47 d ∧ vw S 47 d ≤ 3 := ((dq_CI (t0 S) h.n0.1).2.2.1 d).1
theorem vw_51 {S : ax_M} (h : SR S) (d : Int) : 0 ≤ vw S 51 d ∧ vw S 51 d ≤ 255 := ((dq_CI (t0 S) h.n0.1).2.2.1 d).2.2.2.2
theorem vw_p {S : ax_M} (h : SR S) (d : Int) (h0 : 0 ≤ d) (h1 : d < vw S 9 2) : 0 < vw S 51 d := by
  have c : CI (qd S) := dq_CI (t0 S) h.n0.1
  have s : qd S 0 6 = 0 ∨ (qd S 0 6 = qd S 0 8 + 1 ∧ qd S 0 8 < 8 ∧ qd S 0 9 = 4 ∧ qd S 14 (qd S 0 8) ≠ 0) := dq_sz (t0 S) h.n0.1
  have h1 : d < qd S 0 6 := h1
  have r := vw_51 h d
  have : qd S 14 d ≠ 0 := by
    rcases s with s | ⟨s1, s2, s3, s4⟩
    · omega
    · rcases Int.lt_or_eq_of_le (show d ≤ qd S 0 8 by omega) with q | q
      · exact c.2.2.2 d h0 q
      · rw [q]; exact s4
  have e : vw S 51 d = qd S 14 d := rfl
  omega
theorem cnt_r {S : ax_M} (h : SR S) (w : Int) : -2 ≤ vCount S w ∧ vCount S w ≤ 100 := by
  have n8 := vw_n8 h
  have n0 := h.n0
  have n1 := h.n1
  have p : 0 ≤ qr S 5 1 ∧ qr S 5 1 ≤ S 45 1 := (rq_par (t1 S) n1.1).2
  have pw : vw S 9 8 = qr S 5 1 := rfl
  have s26 : 0 ≤ S 9 26 ∧ S 9 26 ≤ 10 := h 9 26 rfl
  have s30 : 0 ≤ S 9 30 ∧ S 9 30 ≤ 10 := h 9 30 rfl
  have s38 : 0 ≤ S 9 38 ∧ S 9 38 ≤ 5 := h 9 38 rfl
  have wr := wth_r (vw S) (p2 (vw S 9 2) - 1) n8 (fun d _ _ => vw_50 h d)
  have ra : 0 ≤ raN S ∧ raN S ≤ 8 := by
    unfold raN
    have := itI_inv (f := fun h s => s + S 59 h) (a := 0) (p := 8) (fun i x => 0 ≤ x ∧ x ≤ i) (by decide) (by decide) (fun i x h0 h1 q => by
      have : 0 ≤ S 59 i ∧ S 59 i ≤ 1 := h 59 i rfl
      show 0 ≤ x + S 59 i ∧ x + S 59 i ≤ _
      omega)
    exact this
  unfold vCount
  repeat' split
  all_goals omega
/-! the digest -/
def mx (h v : Int) : Int := 31 * h + v
def dg1 (S : ax_M) : Int := mx (mx (itI (fun w h => mx h (vCount S w)) 17 8) (qd S 0 7)) (qr S 5 2)
def dgA (V : ax_M) (d h : Int) : Int := itI (fun w h => mx h (dOf V d w)) h 5
def dgB (V : ax_M) (d h : Int) : Int := mx (mx (mx (mx (mx (dgA V d h) (hrs V d)) (cst V d 2)) (lik V d 2)) (odV V d 2 0)) (odV V d 2 1)
noncomputable def dgD (V : ax_M) (d h : Int) : Int := mx (mx (dgB V d h) (mstR V d)) (spV V (p2 d))
noncomputable def dg2 (S : ax_M) (n : Int) : Int := itI (fun d h => dgD (vw S) d h) (dg1 S) n
def dgK (V : ax_M) (k h n : Int) : Int := itI (fun w h => mx h (rOf V k w)) h n
noncomputable def dg3 (S : ax_M) (n : Int) : Int := itI (fun k h => dgK (vw S) k h 3) (dg2 S (vw S 9 2)) n
noncomputable def dg4 (S : ax_M) (n : Int) : Int := itI (fun w h => mx h (crO (vw S) w)) (mx (mx (dg3 S 4) (mW (vw S))) (mC (vw S))) n
noncomputable def vDig (S : ax_M) : Int := mx (mx (mx (mx (mx (dg4 S 3) (on (htB S))) (htB S)) (vBest S)) (rgV (vw S) 2 0)) (rgV (vw S) 2 1)
