def gR (V : ax_M) (fx : Int → Int) (m h : Int) (f : Int → Int) (x s c : Int) : Prop := (∀ t, c < t → 0 ≤ t → sub t s → vM V fx m h t → f (nD s t) < 1000000 → x ≤ f (nD s t) + cT V t h) ∧ (x < 1000000 → ∃ t, 0 ≤ t ∧ sub t s ∧ vM V fx m h t ∧ f (nD s t) < 1000000 ∧ x = f (nD s t) + cT V t h)
theorem gR_start {V : ax_M} {fx : Int → Int} {m h : Int} {f : Int → Int} {s : Int} (hs : 0 ≤ s) : gR V fx m h f 1000000 s s := ⟨fun t h1 h2 h3 => by have := sub_le hs h2 h3; omega, fun h => by omega⟩
theorem gR_skip {V : ax_M} {fx : Int → Int} {m h : Int} {f : Int → Int} {x s c : Int} (g : gR V fx m h f x s c) (hn : ¬ (vM V fx m h c ∧ f (nD s c) < 1000000)) : gR V fx m h f x s (c - 1) := ⟨fun t h1 h2 h3 h4 h5 => by
  by_cases e : t = c
  · subst e; exact absurd ⟨h4, h5⟩ hn
  · exact g.1 t (by omega) h2 h3 h4 h5, g.2⟩
theorem gR_take {V : ax_M} {fx : Int → Int} {m h : Int} {f : Int → Int} {x s c : Int} (g : gR V fx m h f x s c) (h0 : 0 ≤ c) (hs : sub c s) (hv : vM V fx m h c) (hf : f (nD s c) < 1000000) : gR V fx m h f (if f (nD s c) + cT V c h < x then f (nD s c) + cT V c h else x) s (c - 1) := by
  by_cases q : f (nD s c) + cT V c h < x
  · rw [if_pos q]
    refine ⟨fun t h1 h2 h3 h4 h5 => ?_, fun _ => ⟨c, h0, hs, hv, hf, rfl⟩⟩
    by_cases e : t = c
    · subst e; exact Int.le_refl _
    · have := g.1 t (by omega) h2 h3 h4 h5; omega
  · rw [if_neg q]
    refine ⟨fun t h1 h2 h3 h4 h5 => ?_, g.2⟩
    by_cases e : t = c
    · subst e; omega
    · exact g.1 t (by omega) h2 h3 h4 h5
theorem gR_next {V : ax_M} {fx : Int → Int} {m h : Int} {f : Int → Int} {x s c : Int} (g : gR V fx m h f x s (c - 1)) (hs : 0 ≤ s ∧ s < 1024) (hc : 0 < c) (hsub : sub c s) : gR V fx m h f x s (nA (c - 1) s) := ⟨fun t h1 h2 h3 h4 h5 => g.1 t (by
    rcases Int.lt_or_le t c with q | q
    · have := sub_next hs hc hsub h2 h3 q; omega
    · omega) h2 h3 h4 h5, g.2⟩
def musC (fx : Int → Int) (m h must : Int) : Prop := 0 ≤ must ∧ ∀ d, 0 ≤ d → (tb must d = true ↔ d < m ∧ fx d = h)
def mayC (fx : Int → Int) (n m h may : Int) : Prop := 0 ≤ may ∧ ∀ d, 0 ≤ d → (tb may d = true ↔ d < n ∧ ¬ (d < m ∧ fx d ≠ h))
theorem nA_eq {a b : Int} (hb : 0 ≤ b) : nA a b = b ↔ sub b a := by
  constructor
  · intro e k hk q
    have := tb_nA a b k
    rw [e, q] at this
    simp at this
    exact this
  · intro h
    refine tb_ext (by unfold nA; omega) hb (fun k hk => ?_)
    rw [tb_nA]
    cases q : tb b k with
    | false => simp
    | true => rw [h k hk q]; rfl
theorem nD_z {a b : Int} (ha : 0 ≤ a) : nD a b = 0 ↔ sub a b := by
  constructor
  · intro e k hk q
    have := tb_nD a b k
    rw [e, tb_0, q] at this
    simp at this
    exact this
  · intro h
    refine tb_ext (nD_le a b ha).1 (by omega) (fun k hk => ?_)
    rw [tb_nD, tb_0]
    cases q : tb a k with
    | false => rfl
    | true => rw [h k hk q]; rfl
theorem vM_iff {V : ax_M} {fx : Int → Int} {n m h must may t : Int} (hm : m ≤ n) (h1 : musC fx m h must) (h2 : mayC fx n m h may) (ht : 0 ≤ t) (hn : ∀ k, 0 ≤ k → tb t k = true → k < n) : vM V fx m h t ↔ (nA t must = must ∧ nD t may = 0) ∧ cT V t h < 1000000 := by
  unfold vM
  rw [nA_eq h1.1, nD_z ht]
  constructor
  · rintro ⟨a, b⟩
    refine ⟨⟨fun k hk q => ?_, fun k hk q => ?_⟩, b⟩
    · have := (h1.2 k hk).mp q
      exact (a k hk this.1).mpr this.2
    · rw [h2.2 k hk]
      refine ⟨hn k hk q, fun z => z.2 ((a k hk z.1).mp q)⟩
  · rintro ⟨⟨a, b⟩, c⟩
    refine ⟨fun d d0 d1 => ⟨fun q => ?_, fun q => a d d0 ((h1.2 d d0).mpr ⟨d1, q⟩)⟩, c⟩
    have := (h2.2 d d0).mp (b d d0 q)
    rcases Classical.em (fx d = h) with e | e
    · exact e
    · exact absurd ⟨d1, e⟩ this.2
theorem mus_0 (fx : Int → Int) (h : Int) : musC fx 0 h 0 := ⟨by omega, fun d d0 => by
  rw [tb_0]
  constructor
  · intro q; cases q
  · rintro ⟨q, -⟩; omega⟩
theorem mus_s {fx : Int → Int} {m h must : Int} (hm : 0 ≤ m) (c : musC fx m h must) : musC fx (m + 1) h (nO must (if fx m = h then p2 m else 0)) := ⟨nO_n, fun d d0 => by
  rw [tb_nO, Bool.or_eq_true, c.2 d d0]
  by_cases e : fx m = h
  · rw [if_pos e, tb_p2 hm d0, decide_eq_true_eq]
    constructor
    · rintro (⟨a, b⟩ | a)
      · exact ⟨by omega, b⟩
      · subst a; exact ⟨by omega, e⟩
    · rintro ⟨a, b⟩
      by_cases z : d = m
      · right; exact z
      · left; exact ⟨by omega, b⟩
  · rw [if_neg e, tb_0]
    constructor
    · rintro (⟨a, b⟩ | a)
      · exact ⟨by omega, b⟩
      · cases a
    · rintro ⟨a, b⟩
      by_cases z : d = m
      · subst z; exact absurd b e
      · left; exact ⟨by omega, b⟩⟩
theorem may_0 (fx : Int → Int) {n : Int} (h : Int) (hn : 0 ≤ n ∧ n ≤ 30) : mayC fx n 0 h (p2 n - 1) := ⟨by have := p2_pos n; omega, fun d d0 => by
  rw [tb_all hn d0, decide_eq_true_eq]
  constructor
  · intro q; exact ⟨q, by omega⟩
  · rintro ⟨q, -⟩; exact q⟩
theorem may_t {fx : Int → Int} {n m h may : Int} (hn : 0 ≤ n ∧ n ≤ 30) (c : mayC fx n m h may) (e : fx m = h) : mayC fx n (m + 1) h (nA may (p2 n - 1)) := ⟨by unfold nA; omega, fun d d0 => by
  rw [tb_nA, Bool.and_eq_true, c.2 d d0, tb_all hn d0, decide_eq_true_eq]
  constructor
  · rintro ⟨⟨a, b⟩, -⟩
    refine ⟨a, fun z => ?_⟩
    by_cases q : d = m
    · subst q; exact z.2 e
    · exact b ⟨by omega, z.2⟩
  · rintro ⟨a, b⟩
    exact ⟨⟨a, fun z => b ⟨by omega, z.2⟩⟩, a⟩⟩
theorem may_f {fx : Int → Int} {n m h may : Int} (hm : 0 ≤ m) (c : mayC fx n m h may) (e : fx m ≠ h) : mayC fx n (m + 1) h (nD may (p2 m)) := ⟨(nD_le may (p2 m) c.1).1, fun d d0 => by
  rw [tb_nD, Bool.and_eq_true, c.2 d d0, tb_p2 hm d0]
  constructor
  · rintro ⟨⟨a, b⟩, z⟩
    refine ⟨a, fun y => ?_⟩
    by_cases q : d = m
    · simp [q] at z
    · exact b ⟨by omega, y.2⟩
  · rintro ⟨a, b⟩
    refine ⟨⟨a, fun z => b ⟨by omega, z.2⟩⟩, ?_⟩
    have : d ≠ m := fun q => b ⟨by omega, by rw [q]; exact e⟩
    simp [this]⟩
theorem ls_cg {n : Int} {val : Int → Int → Int} {valid : Int → Int → Prop} {F H : Int} {f g : Int → Int} (h : isLs n val valid F H f) (e : ∀ s, 0 ≤ s → s < p2 n → g s = f s) : isLs n val valid F H g := fun s a b => by
  rw [e s a b]
  exact h s a b
def exB (k : Nat) (i : Int) : Bool := decide (k = 62 ∨ k = 63 ∨ k = 9 ∧ (i = 22 ∨ i = 23))
theorem ag_fr {ex : Nat → Int → Bool} {V M M1 : ax_M} (h : AgM V M) (hf : frm ex M M1) (he : ∀ k i, relM V k i → ex k i = false) : AgM V M1 := fun k i r => (hf k i (he k i r)).trans (h k i r)
theorem rel_B (V : ax_M) (k : Nat) (i : Int) (r : relM V k i) : exB k i = false := by
  unfold relM at r
  unfold exB
  split at r <;> first | exact decide_eq_false (by omega) | exact False.elim r
theorem ag_B {V M M1 : ax_M} (h : AgM V M) (hf : frm exB M M1) : AgM V M1 := ag_fr h hf (rel_B V)
/-- -1 or more, with a set -/
theorem rr_andM {X : ax_X} {cc : ByteArray} {own : String} {n pc : Nat} {lv : List (Option ax_V)} {rest : List ax_V} {M : ax_M} {a b : Int} (B : ax_b X cc own n) (hd : decode cc pc = .ok (.iand, 1)) (ha : -1 ≤ a ∧ a ≤ 2147483647 ∧ 0 ≤ b ∧ b ≤ 2147483647) (k : AW X (pc + 1) lv (aI (if a < 0 then b else nA a b) :: rest) M) : AW X pc lv (aI b :: aI a :: rest) M := by
  refine rr_iand B hd ?_
  by_cases q : a < 0
  · rw [if_pos q] at k
    have e : ax_and a b = b := by
      rw [show a = -1 by omega]
      unfold ax_and
      have : ax_i (-1) &&& ax_i b = ax_i b := by
        apply Int32.toBitVec_inj.mp
        rw [Int32.toBitVec_and]
        have e5 : (ax_i (-1)).toBitVec = BitVec.allOnes 32 := by decide
        rw [e5, BitVec.allOnes_and]
      rw [this, ax_i_of (by omega)]
    rw [e]
    exact k
  · rw [if_neg q] at k
    rw [ax_and_nn (by omega) (by omega)]
    exact k
