def exJ (k : Nat) (_ : Int) : Bool := decide (k = 27 ∨ k = 28)
theorem hop_lt (V : ax_M) {n : Int} (hn : 0 ≤ n ∧ n ≤ 8) : hopD V n < p2 n := mask_lt (by omega) (hop_r V hn).1 (fun k hk e => ((hop_tb V hn.1 hk).mp e).1)
theorem mc_Q (M : ax_M) : frm exQ M (mc M 27 0 28 0 256) := fun k i e => congrFun (mc_ne (fun z => by subst z; exact absurd e (by simp [exQ]))) i
theorem mc_J (M : ax_M) : frm exJ M (mc M 27 0 28 0 256) := fun k i e => congrFun (mc_ne (fun z => by subst z; exact absurd e (by simp [exJ]))) i
theorem exJ_Q (k : Nat) (i : Int) (h : exQ k i = false) : exJ k i = false := by
  unfold exQ at h
  have h := of_decide_eq_false h
  exact decide_eq_false (by omega)
theorem exK_Q (c : Nat) (hc : 26 ≤ c ∧ c ≤ 29) (k : Nat) (i : Int) (h : exQ k i = false) : exK c k i = false := by
  unfold exQ at h
  have h := of_decide_eq_false h
  exact decide_eq_false (by omega)
theorem gC_j {V : ax_M} {h : Int} {f : Int → Int} {x y u s own : Int} (hs : 0 ≤ s) (g : gC V h f x u s) (ok : okT V s h = true) (ho : own = vC V h s) (A : Int) (hu : nD u A = 0) (hy : y = if (nA u s = s ∧ nD u A = 0) ∧ f (nD u s) < NV ∧ own + f (nD u s) < x then own + f (nD u s) else x) : gC V h f y u (s + 1) := by
  subst ho
  by_cases c : sub s u ∧ f (nD u s) < NV
  · have := gC_t hs g ⟨c.1, ok, c.2⟩
    rw [hy, if_cg (q := vC V h s + f (nD u s) < x) ⟨fun z => z.2.2, fun z => ⟨⟨(nA_eq hs).mpr c.1, hu⟩, c.2, z⟩⟩]
    exact this
  · rw [hy, if_neg (fun z => c ⟨(nA_eq hs).mp z.1.1, z.2.1⟩)]
    exact gC_n g (fun z => c ⟨z.1, z.2.2⟩)
