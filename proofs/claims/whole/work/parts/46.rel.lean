/-! the class's readers beside the clean reading (rows beyond what is read may hold what was) -/
def CoD (q M : ax_M) : Prop := (M 0 8 = q 0 8 ∧ M 0 9 = q 0 9 ∧ M 0 10 = q 0 10) ∧ ∀ d, 0 ≤ d → (d < q 0 8 → M 10 d = q 10 d ∧ M 11 d = q 11 d ∧ M 12 d = q 12 d ∧ M 13 d = q 13 d ∧ M 14 d = q 14 d) ∧ (d = q 0 8 → (1 ≤ q 0 9 → M 10 d = q 10 d ∧ M 14 d = q 14 d) ∧ (2 ≤ q 0 9 → M 11 d = q 11 d) ∧ (3 ≤ q 0 9 → M 12 d = q 12 d) ∧ (4 ≤ q 0 9 → M 13 d = q 13 d))
def RelD (q M : ax_M) : Prop := (M 0 5 = q 0 5 ∧ M 0 6 = q 0 6 ∧ M 0 7 = q 0 7) ∧ CoD q M
theorem CoD_f {q M : ax_M} (j v w : Int) (h8 : j ≠ 8) (h9 : j ≠ 9) (h : CoD q M) (h10 : j = 10 → v = w) : CoD (ms q 0 j v) (ms M 0 j w) := by
  obtain ⟨⟨a, b, c⟩, d⟩ := h
  have e8 : ms q 0 j v 0 8 = q 0 8 := ms_off (Ne.symm h8)
  have e9 : ms q 0 j v 0 9 = q 0 9 := ms_off (Ne.symm h9)
  have f8 : ms M 0 j w 0 8 = M 0 8 := ms_off (Ne.symm h8)
  have f9 : ms M 0 j w 0 9 = M 0 9 := ms_off (Ne.symm h9)
  refine ⟨⟨by rw [e8, f8]; exact a, by rw [e9, f9]; exact b, ?_⟩, fun k k0 => ?_⟩
  · rw [ms_e, ms_e]
    by_cases q : (10 : Int) = j
    · rw [if_pos q, if_pos q]; exact (h10 q.symm).symm
    · rw [if_neg q, if_neg q]; exact c
  · rw [e8, e9]
    exact d k k0
/-- an array's entry for the deed that is being read, and the next step -/
theorem CoD_n {q M : ax_M} (h : CoD q M) : M 0 8 = q 0 8 := h.1.1
theorem goM_4 {q : ax_M} {b : Int} (h8 : q 0 8 < 8) (h9 : q 0 9 = 4) (k : twB q b = false) : goM q b = q := by
  unfold twB at k
  replace k := of_decide_eq_false k
  unfold goM twM
  rw [if_neg (by omega), if_neg (by omega), if_neg (by omega), if_neg (by omega), if_neg (by omega), if_neg (fun z => k (Or.inl z)), if_neg (fun z => k (Or.inr z))]
theorem tk1_Co {q M : ax_M} (b : Int) (c : CI q) (h5 : M 0 5 = q 0 5) (h : CoD q M) : CoD (tk1 q b) (tk1 M b) := by
  obtain ⟨⟨a8, a9, a10⟩, ar⟩ := id h
  by_cases hu : q 0 10 = -1
  · have hu' : M 0 10 = -1 := by rw [a10]; exact hu
    have n0 : 0 ≤ q 0 8 := c.1.1
    have fail : goB q b = false → goB M b = false → CoD (goM q b) (goM M b) → CoD (tk1 q b) (tk1 M b) := fun g1 g2 hc => by
      unfold tk1
      rw [if_pos hu, if_pos hu', if_neg (by rw [g1]; decide), if_neg (by rw [g2]; decide), goM_5, goM_5]
      exact CoD_f 10 _ _ (by decide) (by decide) hc (fun _ => h5.symm)
    by_cases h8 : q 0 8 < 8
    · have h8' : M 0 8 < 8 := by omega
      have s4 : 0 ≤ q 0 9 ∧ q 0 9 ≤ 4 := c.2.1
      have nw := (ar (q 0 8) n0).2 rfl
      rcases (show q 0 9 = 0 ∨ q 0 9 = 1 ∨ q 0 9 = 2 ∨ q 0 9 = 3 ∨ q 0 9 = 4 by omega) with h9 | h9 | h9 | h9 | h9
      · obtain ⟨g1, t1⟩ := st0 (b := b) hu h8 h9
        obtain ⟨g2, t2⟩ := st0 (b := b) hu' h8' (by omega)
        by_cases k : kV b = -1
        · refine fail (by rw [g1]; exact decide_eq_false (fun z => z k)) (by rw [g2]; exact decide_eq_false (fun z => z k)) ?_
          unfold goM tiM
          rw [if_neg (by omega), if_pos h9, if_pos k, if_neg (by omega), if_pos (by omega), if_pos k, a8]
          refine ⟨⟨a8, a9, a10⟩, fun d d0 => ⟨fun dl => ?_, fun de => ?_⟩⟩
          · have dl : d < q 0 8 := dl
            have z := (ar d d0).1 dl
            rw [ms_off (by omega), ms_off (by omega)]
            exact z
          · have de : d = q 0 8 := de
            refine ⟨fun x => ?_, fun x => ?_, fun x => ?_, fun x => ?_⟩
            · have x : 1 ≤ q 0 9 := x
              omega
            · have x : 2 ≤ q 0 9 := x
              omega
            · have x : 3 ≤ q 0 9 := x
              omega
            · have x : 4 ≤ q 0 9 := x
              omega
        · rw [t1 k, t2 k, a8]
          refine ⟨⟨a8, by rw [ms_at, ms_at], a10⟩, fun d d0 => ⟨fun dl => ?_, fun de => ?_⟩⟩
          · have dl : d < q 0 8 := dl
            have z := (ar d d0).1 dl
            refine ⟨?_, z.2.1, z.2.2.1, z.2.2.2.1, ?_⟩
            · show ms (ms M 14 (q 0 8) 0) 10 (q 0 8) (kV b) 10 d = ms (ms q 14 (q 0 8) 0) 10 (q 0 8) (kV b) 10 d
              rw [ms_off (by omega), ms_off (by omega)]
              exact z.1
            · show ms M 14 (q 0 8) 0 14 d = ms q 14 (q 0 8) 0 14 d
              rw [ms_off (by omega), ms_off (by omega)]
              exact z.2.2.2.2
          · have de : d = q 0 8 := de
            subst de
            refine ⟨fun _ => ⟨?_, ?_⟩, fun x => ?_, fun x => ?_, fun x => ?_⟩
            · show ms (ms M 14 (q 0 8) 0) 10 (q 0 8) (kV b) 10 (q 0 8) = ms (ms q 14 (q 0 8) 0) 10 (q 0 8) (kV b) 10 (q 0 8)
              rw [ms_at, ms_at]
            · show ms M 14 (q 0 8) 0 14 (q 0 8) = ms q 14 (q 0 8) 0 14 (q 0 8)
              rw [ms_at, ms_at]
            · rw [ms_at] at x; omega
            · rw [ms_at] at x; omega
            · rw [ms_at] at x; omega
      · obtain ⟨g1, t1⟩ := st1 (b := b) hu h8 h9
        obtain ⟨g2, t2⟩ := st1 (b := b) hu' h8' (by omega)
        by_cases k : fgV b 0 5 = -1
        · refine fail (by rw [g1]; exact decide_eq_false (fun z => z k)) (by rw [g2]; exact decide_eq_false (fun z => z k)) ?_
          unfold goM tiM
          rw [if_neg (by omega), if_neg (by omega), if_pos h9, if_pos k, if_neg (by omega), if_neg (by omega), if_pos (by omega), if_pos k]
          exact h
        · rw [t1 k, t2 k, a8]
          refine ⟨⟨a8, by rw [ms_at, ms_at], a10⟩, fun d d0 => ⟨fun dl => ?_, fun de => ?_⟩⟩
          · have dl : d < q 0 8 := dl
            have z := (ar d d0).1 dl
            refine ⟨z.1, ?_, z.2.2⟩
            show ms M 11 (q 0 8) (fgV b 0 5) 11 d = ms q 11 (q 0 8) (fgV b 0 5) 11 d
            rw [ms_off (by omega), ms_off (by omega)]
            exact z.2.1
          · have de : d = q 0 8 := de
            subst de
            refine ⟨fun _ => nw.1 (by omega), fun _ => ?_, fun x => ?_, fun x => ?_⟩
            · show ms M 11 (q 0 8) (fgV b 0 5) 11 (q 0 8) = ms q 11 (q 0 8) (fgV b 0 5) 11 (q 0 8)
              rw [ms_at, ms_at]
            · rw [ms_at] at x; omega
            · rw [ms_at] at x; omega
      · obtain ⟨g1, t1⟩ := st2 (b := b) hu h8 h9
        obtain ⟨g2, t2⟩ := st2 (b := b) hu' h8' (by omega)
        by_cases k : wtV b = -1
        · refine fail (by rw [g1]; exact decide_eq_false (fun z => z k)) (by rw [g2]; exact decide_eq_false (fun z => z k)) ?_
          unfold goM tiM
          rw [if_neg (by omega), if_neg (by omega), if_neg (by omega), if_pos h9, if_pos k, if_neg (by omega), if_neg (by omega), if_neg (by omega), if_pos (by omega), if_pos k]
          exact h
        · rw [t1 k, t2 k, a8]
          refine ⟨⟨a8, by rw [ms_at, ms_at], a10⟩, fun d d0 => ⟨fun dl => ?_, fun de => ?_⟩⟩
          · have dl : d < q 0 8 := dl
            have z := (ar d d0).1 dl
            refine ⟨z.1, z.2.1, ?_, z.2.2.2⟩
            show ms M 12 (q 0 8) (wtV b) 12 d = ms q 12 (q 0 8) (wtV b) 12 d
            rw [ms_off (by omega), ms_off (by omega)]
            exact z.2.2.1
          · have de : d = q 0 8 := de
            subst de
            refine ⟨fun _ => nw.1 (by omega), fun _ => nw.2.1 (by omega), fun _ => ?_, fun x => ?_⟩
            · show ms M 12 (q 0 8) (wtV b) 12 (q 0 8) = ms q 12 (q 0 8) (wtV b) 12 (q 0 8)
              rw [ms_at, ms_at]
            · rw [ms_at] at x; omega
      · obtain ⟨g1, t1⟩ := st3 (b := b) hu h8 h9
        obtain ⟨g2, t2⟩ := st3 (b := b) hu' h8' (by omega)
        by_cases k : fgV b 1 9 = -1
        · refine fail (by rw [g1]; exact decide_eq_false (fun z => z k)) (by rw [g2]; exact decide_eq_false (fun z => z k)) ?_
          unfold goM tiM
          rw [if_neg (by omega), if_neg (by omega), if_neg (by omega), if_neg (by omega), if_pos h9, if_pos k, if_neg (by omega), if_neg (by omega), if_neg (by omega), if_neg (by omega), if_pos (by omega), if_pos k]
          exact h
        · rw [t1 k, t2 k, a8]
          refine ⟨⟨a8, by rw [ms_at, ms_at], a10⟩, fun d d0 => ⟨fun dl => ?_, fun de => ?_⟩⟩
          · have dl : d < q 0 8 := dl
            have z := (ar d d0).1 dl
            refine ⟨z.1, z.2.1, z.2.2.1, ?_, z.2.2.2.2⟩
            show ms M 13 (q 0 8) (fgV b 1 9) 13 d = ms q 13 (q 0 8) (fgV b 1 9) 13 d
            rw [ms_off (by omega), ms_off (by omega)]
            exact z.2.2.2.1
          · have de : d = q 0 8 := de
            subst de
            refine ⟨fun _ => nw.1 (by omega), fun _ => nw.2.1 (by omega), fun _ => nw.2.2.1 (by omega), fun _ => ?_⟩
            show ms M 13 (q 0 8) (fgV b 1 9) 13 (q 0 8) = ms q 13 (q 0 8) (fgV b 1 9) 13 (q 0 8)
            rw [ms_at, ms_at]
      · obtain ⟨g1, t1⟩ := st4 (b := b) hu h8 h9
        obtain ⟨g2, t2⟩ := st4 (b := b) hu' h8' (by omega)
        have e14 : M 14 (q 0 8) = q 14 (q 0 8) := (nw.1 (by omega)).2
        have etw : twB M b = twB q b := by
          unfold twB
          rw [a8, e14]
        have al := (ar (q 0 8) n0).2 rfl
        cases k : twB q b with
        | false =>
          refine fail (by rw [g1, k]) (by rw [g2, etw, k]) ?_
          rw [goM_4 h8 h9 k, goM_4 h8' (by omega) (by rw [etw]; exact k)]
          exact h
        | true =>
          rw [t1 k, t2 (by rw [etw]; exact k)]
          unfold twM
          rw [a8, e14]
          by_cases z1 : b = 59 ∧ q 14 (q 0 8) ≠ 0
          · rw [if_pos z1, if_pos z1]
            refine ⟨⟨rfl, rfl, a10⟩, fun d d0 => ⟨fun dl => ?_, fun de => ?_⟩⟩
            · have dl : d < q 0 8 + 1 := dl
              rcases Int.lt_or_eq_of_le (show d ≤ q 0 8 by omega) with y | y
              · exact (ar d d0).1 y
              · subst y
                exact ⟨(al.1 (by omega)).1, al.2.1 (by omega), al.2.2.1 (by omega), al.2.2.2 (by omega), e14⟩
            · refine ⟨fun x => ?_, fun x => ?_, fun x => ?_, fun x => ?_⟩ <;> (rw [ms_at] at x; omega)
          · rw [if_neg z1, if_neg z1]
            have z2 : (0 ≤ b - 65 ∧ b - 65 ≤ 7) ∧ tb (q 14 (q 0 8)) (b - 65) = false := by
              unfold twB at k
              rcases of_decide_eq_true k with y | y
              · exact absurd y z1
              · exact y
            rw [if_pos z2, if_pos z2]
            refine ⟨⟨a8, a9, a10⟩, fun d d0 => ⟨fun dl => ?_, fun de => ?_⟩⟩
            · have dl : d < q 0 8 := dl
              have z := (ar d d0).1 dl
              refine ⟨z.1, z.2.1, z.2.2.1, z.2.2.2.1, ?_⟩
              rw [ms_off (by omega), ms_off (by omega)]
              exact z.2.2.2.2
            · have de : d = q 0 8 := de
              subst de
              refine ⟨fun _ => ⟨(al.1 (by omega)).1, by rw [ms_at, ms_at]⟩, al.2.1, al.2.2.1, al.2.2.2⟩
    · refine fail ?_ ?_ ?_
      · unfold goB; rw [if_pos (by omega)]
      · unfold goB; rw [if_pos (by omega)]
      · unfold goM; rw [if_pos (by omega), if_pos (by omega)]; exact h
  · unfold tk1
    rw [if_neg hu, if_neg (by rw [a10]; exact hu)]
    exact h
theorem tkD_Rel {q M : ax_M} (b : Int) (c : CI q) (h : RelD q M) : RelD (tkD q b) (tkD M b) := by
  obtain ⟨⟨h5, h6, h7⟩, hc⟩ := h
  have k := tk1_Co b c h5 hc
  have kc : CoD (tkD q b) (tkD M b) := CoD_f 6 _ _ (by decide) (by decide) (CoD_f 7 _ _ (by decide) (by decide) (CoD_f 5 _ _ (by decide) (by decide) k (fun z => absurd z (by decide))) (fun z => absurd z (by decide))) (fun z => absurd z (by decide))
  have c1 := tk1_CI b c
  have f5 : tkD M b 0 5 = tkD q b 0 5 := by rw [tkD_by, tkD_by, h5]
  have f7 : tkD M b 0 7 = tkD q b 0 7 := by
    rw [tkD_fl, tkD_fl, k.1.1, k.1.2.1, k.1.2.2, h5]
    refine if_cg ?_
    constructor
    · rintro (z | ⟨z1, z2, z3⟩)
      · exact Or.inl z
      · exact Or.inr ⟨z1, z2, by rw [← (((k.2 _ c1.1.1).2 rfl).1 (by omega)).2]; exact z3⟩
    · rintro (z | ⟨z1, z2, z3⟩)
      · exact Or.inl z
      · exact Or.inr ⟨z1, z2, by rw [(((k.2 _ c1.1.1).2 rfl).1 (by omega)).2]; exact z3⟩
  refine ⟨⟨f5, ?_, f7⟩, kc⟩
  rw [tkD_sz, tkD_sz, f7, k.1.1]
theorem RelD_0 (M : ax_M) : RelD q0 (clD M) := by
  refine ⟨⟨rfl, rfl, rfl⟩, ⟨⟨rfl, rfl, rfl⟩, fun d d0 => ⟨fun x => ?_, fun x => ⟨fun y => ?_, fun y => ?_, fun y => ?_, fun y => ?_⟩⟩⟩⟩
  · exact absurd x (by show ¬ d < 0; omega)
  · exact absurd y (by decide)
  · exact absurd y (by decide)
  · exact absurd y (by decide)
  · exact absurd y (by decide)
/-- what the class has of DEEDS is what they are -/
theorem RelD_ag {q M : ax_M} (hs : q 0 6 = 0 ∨ (q 0 6 = q 0 8 + 1 ∧ q 0 8 < 8 ∧ q 0 9 = 4 ∧ q 14 (q 0 8) ≠ 0)) (h : RelD q M) : ∀ d, 0 ≤ d → d < q 0 6 → M 10 d = q 10 d ∧ M 11 d = q 11 d ∧ M 12 d = q 12 d ∧ M 13 d = q 13 d ∧ M 14 d = q 14 d := by
  intro d a b
  have z := h.2.2 d a
  rcases hs with hs | ⟨s1, s2, s3, s4⟩
  · omega
  · rcases Int.lt_or_eq_of_le (show d ≤ q 0 8 by omega) with y | y
    · exact z.1 y
    · have w := z.2 y
      exact ⟨(w.1 (by omega)).1, w.2.1 (by omega), w.2.2.1 (by omega), w.2.2.2 (by omega), (w.1 (by omega)).2⟩
/-! rules -/
def RelR (q M : ax_M) : Prop := (M 5 0 = q 5 0 ∧ M 5 1 = q 5 1 ∧ M 5 2 = q 5 2 ∧ M 5 6 = q 5 6 ∧ M 5 8 = q 5 8 ∧ M 5 9 = q 5 9) ∧ (1 ≤ q 5 8 → M 5 7 = q 5 7) ∧ ∀ k, 0 ≤ k → k < 4 → M 30 k = q 30 k ∧ M 31 k = q 31 k ∧ M 32 k = q 32 k
def CoR (q M : ax_M) : Prop := (M 5 6 = q 5 6 ∧ M 5 8 = q 5 8 ∧ M 5 9 = q 5 9) ∧ (1 ≤ q 5 8 → M 5 7 = q 5 7) ∧ ∀ k, 0 ≤ k → k < 4 → M 30 k = q 30 k ∧ M 31 k = q 31 k ∧ M 32 k = q 32 k
theorem rgM_Co {q M : ax_M} (b : Int) (p8 : 0 ≤ q 5 8) (h : CoR q M) : rgB M b = rgB q b ∧ CoR (rgM q b) (rgM M b) := by
  obtain ⟨⟨a6, a8, a9⟩, a7, ar⟩ := id h
  refine ⟨by unfold rgB; rw [a8], ?_⟩
  unfold rgM
  rw [a8]
  by_cases s0 : q 5 8 = 0
  · rw [if_pos s0, if_pos s0]
    unfold rkM
    by_cases k : kV b = -1
    · rw [if_pos k, if_pos k]; exact h
    · rw [if_neg k, if_neg k]
      exact ⟨⟨a6, rfl, a9⟩, fun _ => rfl, ar⟩
  · rw [if_neg s0, if_neg s0]
    by_cases s1 : q 5 8 = 1
    · rw [if_pos s1, if_pos s1]
      unfold rnM
      by_cases k : fgV b 0 4 = -1
      · rw [if_pos k, if_pos k]; exact h
      · rw [if_neg k, if_neg k]
        have e7 := a7 (by omega)
        refine ⟨⟨?_, rfl, a9⟩, fun _ => e7, fun j x y => ?_⟩
        · show M 5 6 + 1 = q 5 6 + 1
          rw [a6]
        · have z := ar j x y
          show sayM M (M 5 7) (fgV b 0 4) 30 j = sayM q (q 5 7) (fgV b 0 4) 30 j ∧ sayM M (M 5 7) (fgV b 0 4) 31 j = sayM q (q 5 7) (fgV b 0 4) 31 j ∧ sayM M (M 5 7) (fgV b 0 4) 32 j = sayM q (q 5 7) (fgV b 0 4) 32 j
          rw [e7]
          simp [sayM, ms, z]
    · rw [if_neg s1, if_neg s1]
      unfold rmM
      rw [a8]
      by_cases k1 : b = 59
      · rw [if_pos k1, if_pos k1]
        exact ⟨⟨a6, rfl, a9⟩, fun x => absurd x (by show ¬ (1 : Int) ≤ 0; decide), ar⟩
      · rw [if_neg k1, if_neg k1]
        by_cases w : 1 ≤ q 5 8
        · have e7 := a7 w
          by_cases k2 : b = 119 ∧ q 5 8 < 3
          · rw [if_pos k2, if_pos k2]
            refine ⟨⟨a6, rfl, a9⟩, fun _ => e7, fun j x y => ?_⟩
            have z := ar j x y
            rw [e7]
            simp [ms, z]
          · rw [if_neg k2, if_neg k2]
            by_cases k3 : b = 104 ∧ q 5 8 < 4
            · rw [if_pos k3, if_pos k3]
              refine ⟨⟨a6, rfl, a9⟩, fun _ => e7, fun j x y => ?_⟩
              have z := ar j x y
              rw [e7]
              simp [ms, z]
            · rw [if_neg k3, if_neg k3]; exact h
        · exact absurd (show 1 ≤ q 5 8 by omega) w
theorem q0_RelR (M : ax_M) : RelR q0 (clR M) := by
  refine ⟨⟨rfl, rfl, rfl, rfl, rfl, rfl⟩, fun x => absurd x (by decide), fun k a b => ?_⟩
  rcases (show k = 0 ∨ k = 1 ∨ k = 2 ∨ k = 3 by omega) with rfl | rfl | rfl | rfl <;> exact ⟨rfl, rfl, rfl⟩
theorem rgM_8 (q : ax_M) (b : Int) (p8 : 0 ≤ q 5 8) : 0 ≤ rgM q b 5 8 := by
  unfold rgM rkM rnM rmM
  repeat' split
  all_goals first | exact p8 | (show (0 : Int) ≤ 0; decide) | (show (0 : Int) ≤ 1; decide) | (show (0 : Int) ≤ 2; decide) | (show (0 : Int) ≤ 3; decide) | (show (0 : Int) ≤ 4; decide)
theorem rk1_8 (q : ax_M) (b : Int) (p8 : 0 ≤ q 5 8) : 0 ≤ rk1 q b 5 8 := by
  unfold rk1
  split
  · split
    · exact rgM_8 q b p8
    · exact rgM_8 q b p8
  · exact p8
theorem rq_8 (t : Int → Int) {n : Int} (hn : 0 ≤ n) : 0 ≤ rq t n 5 8 :=
  itI_inv (f := fun i q => tkR q (t i)) (a := q0) (p := n) (fun (_ : Int) (q : ax_M) => 0 ≤ q 5 8) hn (by decide) (fun i q _ _ w => rk1_8 q (t i) w)
theorem tkR_Rel {q M : ax_M} (b : Int) (p8 : 0 ≤ q 5 8) (h : RelR q M) : RelR (tkR q b) (tkR M b) := by
  obtain ⟨⟨h0, h1, h2, h6, h8, h9⟩, h7, hr⟩ := h
  have g := rgM_Co b p8 ⟨⟨h6, h8, h9⟩, h7, hr⟩
  have k : CoR (rk1 q b) (rk1 M b) := by
    unfold rk1
    rw [h9]
    by_cases u : q 5 9 = -1
    · rw [if_pos u, if_pos u, g.1]
      by_cases v : rgB q b = true
      · rw [if_pos v, if_pos v]; exact g.2
      · rw [if_neg v, if_neg v]
        obtain ⟨⟨c6, c8, c9⟩, c7, cr⟩ := g.2
        have e : ∀ N : ax_M, rgM N b 5 0 = N 5 0 := fun N => by
          unfold rgM rkM rnM rmM
          repeat' split
          all_goals rfl
        refine ⟨⟨c6, c8, ?_⟩, c7, cr⟩
        rw [ms_at, ms_at, e, e, h0]
    · rw [if_neg u, if_neg u]
      exact ⟨⟨h6, h8, h9⟩, h7, hr⟩
  obtain ⟨⟨c6, c8, c9⟩, c7, cr⟩ := k
  have f0 : tkR M b 5 0 = tkR q b 5 0 := by rw [tkR_by, tkR_by, h0]
  have f2 : tkR M b 5 2 = tkR q b 5 2 := by rw [tkR_fl, tkR_fl, c9, c8, h0]
  refine ⟨⟨f0, ?_, f2, c6, c8, c9⟩, c7, cr⟩
  rw [tkR_pa, tkR_pa, f2, c6]
