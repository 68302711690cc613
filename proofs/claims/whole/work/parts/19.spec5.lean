/-! the state S: what the calls before have made of it (the reference's cells that last); the view of it when its texts are read -/
def isB (k : Nat) (i : Int) : Bool := decide (k = 9 ∧ (i = 26 ∨ i = 30 ∨ i = 38) ∨ k = 45 ∨ k = 46 ∨ 55 ≤ k ∧ k ≤ 60 ∨ 65 ≤ k ∧ k ≤ 73)
def bs (S M : ax_M) : Prop := ∀ k i, isB k i = true → M k i = S k i
def t0 (S : ax_M) : Int → Int := fun i => S 46 (80 * 0 + i)
def t1 (S : ax_M) : Int → Int := fun i => S 46 (80 * 1 + i)
abbrev qd (S : ax_M) : ax_M := dq (t0 S) (S 45 0)
abbrev qr (S : ax_M) : ax_M := rq (t1 S) (S 45 1)
def vw (S : ax_M) : ax_M := fun k i => match k with
  | 9 => if i = 2 then qd S 0 6 else if i = 8 then qr S 5 1 else S 9 i
  | 47 => qd S 10 i
  | 48 => qd S 11 i
  | 49 => qd S 12 i
  | 50 => qd S 13 i
  | 51 => qd S 14 i
  | 52 => if qr S 5 2 = -1 then qr S 30 i else 0
  | 53 => if qr S 5 2 = -1 then qr S 31 i else 0
  | 54 => if qr S 5 2 = -1 then qr S 32 i else 0
  | k => S k i
theorem bs_fr {ex : Nat → Int → Bool} {S M M2 : ax_M} (h : bs S M) (hf : frm ex M M2) (he : ∀ k i, isB k i = true → ex k i = false) : bs S M2 := fun k i e => (hf k i (he k i e)).trans (h k i e)
theorem isB_P (k : Nat) (i : Int) (h : isB k i = true) : exP k i = false := by
  unfold isB at h
  unfold exP
  replace h := of_decide_eq_true h
  exact decide_eq_false (by omega)
theorem isB_L (k : Nat) (i : Int) (h : isB k i = true) : exL k i = false := by
  unfold isB at h
  unfold exL
  replace h := of_decide_eq_true h
  exact decide_eq_false (by omega)
theorem exD_P (k : Nat) (i : Int) (h : exP k i = false) : exD k i = false := by
  unfold exP at h
  unfold exD
  replace h := of_decide_eq_false h
  exact decide_eq_false (by omega)
theorem exR_P (k : Nat) (i : Int) (h : exP k i = false) : exR k i = false := by
  unfold exP at h
  unfold exR
  replace h := of_decide_eq_false h
  exact decide_eq_false (by omega)
theorem exP_L (k : Nat) (i : Int) (h : exL k i = false) : exP k i = false := by
  unfold exL at h
  unfold exP
  replace h := of_decide_eq_false h
  exact decide_eq_false (by omega)
/-- the class's cells are as they were -/
def co (M M2 : ax_M) : Prop := ∀ k i, (k ≤ 8 ∨ 10 ≤ k ∧ k ≤ 44) → M2 k i = M k i
theorem co_L {M M2 : ax_M} (h : frm exL M M2) : co M M2 := fun k i e => h k i (decide_eq_false (by omega))
theorem co_P {M M2 : ax_M} (h : frm exP M M2) : co M M2 := fun k i e => h k i (decide_eq_false (by omega))
theorem co_rfl (M : ax_M) : co M M := fun _ _ _ => rfl
theorem co_tr {M M1 M2 : ax_M} (h : co M M1) (h' : co M1 M2) : co M M2 := fun k i e => (h' k i e).trans (h k i e)
theorem co_ms {M M1 : ax_M} {k : Nat} {i v : Int} (h : co M M1) (hk : ¬ (k ≤ 8 ∨ 10 ≤ k ∧ k ≤ 44)) : co M (ms M1 k i v) := fun k' i' e => by
  unfold ms
  rw [if_neg (by rintro ⟨rfl, -⟩; exact hk e)]
  exact h k' i' e
theorem bs_ms {S M : ax_M} (h : bs S M) (k : Nat) (i v : Int) : bs (ms S k i v) (ms M k i v) := fun k' i' e => by
  unfold ms
  split
  · rfl
  · exact h k' i' e
theorem bs_ms0 {S M : ax_M} (h : bs S M) {k : Nat} {i v : Int} (he : isB k i = false) : bs S (ms M k i v) := fun k' i' e => by
  unfold ms
  rw [if_neg (by rintro ⟨rfl, rfl⟩; rw [e] at he; cases he)]
  exact h k' i' e
theorem ag_of {S M : ax_M} (h0 : okP0 (t0 S) (S 45 0) M) (h1 : okP1 (t1 S) (S 45 1) M) (hb : bs S M) : AgM (vw S) M := by
  intro k i r
  have hB : isB k i = true → M k i = S k i := hb k i
  unfold relM at r
  unfold vw
  split at r
  · rcases r with rfl | rfl | rfl | rfl | rfl
    · exact h0.1
    · exact h1.1
    · exact hB (by decide)
    · exact hB (by decide)
    · exact hB (by decide)
  · exact (h0.2 i r.1 r.2).1
  · exact (h0.2 i r.1 r.2).2.1
  · exact (h0.2 i r.1 r.2).2.2.1
  · exact (h0.2 i r.1 r.2).2.2.2.1
  · exact (h0.2 i r.1 r.2).2.2.2.2.1
  · exact (h1.2 i r.1 r.2).1
  · exact (h1.2 i r.1 r.2).2.1
  · exact (h1.2 i r.1 r.2).2.2
  all_goals first | exact hB (by simp [isB]) | exact False.elim r
theorem vw_pos {S M : ax_M} (hg : RG M) (h0 : okP0 (t0 S) (S 45 0) M) : ∀ d, 0 ≤ d → d < vw S 9 2 → 0 < vw S 51 d := by
  intro d a b
  have := h0.2 d a b
  have r := hg.at (sa_51.2.2 d)
  show 0 < qd S 14 d
  have e : M 51 d = qd S 14 d := this.2.2.2.2.1
  have n : qd S 14 d ≠ 0 := this.2.2.2.2.2
  omega
/-- the state's texts are read -/
def rdM (S M : ax_M) : Prop := AgM (vw S) M ∧ bs S M ∧ (∀ d, 0 ≤ d → d < vw S 9 2 → 0 < vw S 51 d)
theorem rdM_fr {ex : Nat → Int → Bool} {S M M2 : ax_M} (h : rdM S M) (hf : frm ex M M2) (he : ∀ k i, relM (vw S) k i → ex k i = false) (he2 : ∀ k i, isB k i = true → ex k i = false) : rdM S M2 := ⟨fun k i r => (hf k i (he k i r)).trans (h.1 k i r), bs_fr h.2.1 hf he2, h.2.2⟩
