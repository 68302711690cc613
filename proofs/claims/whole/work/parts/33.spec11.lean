/-! the class's rows beside a view V -/
def AgC (V M : ax_M) : Prop := M 0 6 = V 9 2 ∧ (∀ d, 0 ≤ d → d < V 9 2 → M 10 d = V 47 d ∧ M 11 d = V 48 d ∧ M 12 d = V 49 d ∧ M 13 d = V 50 d ∧ M 14 d = V 51 d) ∧ (∀ p, 0 ≤ p → p ≤ 7 → M 15 (p * 4 + 0) = V 55 p ∧ M 15 (p * 4 + 1) = V 56 p ∧ M 15 (p * 4 + 2) = V 57 p ∧ M 15 (p * 4 + 3) = V 58 p) ∧ (∀ h, 0 ≤ h → h ≤ 7 → M 16 h = V 59 h) ∧ (∀ j, 0 ≤ j → j ≤ 3 → M 17 j = V 60 j) ∧ (∀ k, 0 ≤ k → k ≤ 3 → (if M 5 2 = -1 then M 30 k else 0) = V 52 k ∧ (M 5 2 = -1 ∧ M 31 k = 1 ↔ V 53 k = 1) ∧ (M 5 2 = -1 ∧ M 32 k = 1 ↔ V 54 k = 1))
def whoV (V : ax_M) (d h : Int) : Int := if cm V d h = -3 then -1 else cm V d h
def RO (V M : ax_M) : Prop := ∀ d, 0 ≤ d → d < V 9 2 → M 19 d = bi (decide (V 53 (V 47 d) = 1)) ∧ M 20 d = bi (decide (V 54 (V 47 d) = 1)) ∧ ∀ h, 0 ≤ h → h ≤ 7 → M 21 (d * 8 + h) = whoV V d h ∧ (cm V d h ≠ -3 → M 22 (d * 8 + h) = prc V (cm V d h))
def prL (V : ax_M) (a b : Int) : Prop := V 57 a < V 57 b ∨ V 57 a = V 57 b ∧ a < b
theorem pk_inv (V : ax_M) (d h bits : Int) {n : Int} (hn : 0 ≤ n) : (itI (pkS V d h bits) (-1) n = -1 ∧ ∀ q, 0 ≤ q → q < n → ¬ (avl V d h q = true ∧ tb bits q = false)) ∨ (0 ≤ itI (pkS V d h bits) (-1) n ∧ itI (pkS V d h bits) (-1) n < n ∧ (avl V d h (itI (pkS V d h bits) (-1) n) = true ∧ tb bits (itI (pkS V d h bits) (-1) n) = false) ∧ ∀ q, 0 ≤ q → q < n → avl V d h q = true → tb bits q = false → q = itI (pkS V d h bits) (-1) n ∨ prL V (itI (pkS V d h bits) (-1) n) q) := by
  refine itI_inv (fun n x => (x = -1 ∧ ∀ q, 0 ≤ q → q < n → ¬ (avl V d h q = true ∧ tb bits q = false)) ∨ (0 ≤ x ∧ x < n ∧ (avl V d h x = true ∧ tb bits x = false) ∧ ∀ q, 0 ≤ q → q < n → avl V d h q = true → tb bits q = false → q = x ∨ prL V x q)) hn (Or.inl ⟨rfl, fun q a b => by omega⟩) (fun i x h0 h1 w => ?_)
  unfold pkS
  split
  · next c =>
    right
    refine ⟨h0, by omega, c.1, fun q a b e f => ?_⟩
    rcases Int.lt_or_eq_of_le (show q ≤ i by omega) with z | z
    · rcases w with ⟨w1, w2⟩ | ⟨w1, w2, w3, w4⟩
      · exact absurd ⟨e, f⟩ (w2 q a z)
      · right
        have hp : V 57 i < V 57 x := by rcases c.2 with y | y <;> omega
        rcases w4 q a z e f with y | y
        · left; rw [y]; exact hp
        · left; rcases y with y | y <;> omega
    · left; exact z
  · next c =>
    rcases w with ⟨w1, w2⟩ | ⟨w1, w2, w3, w4⟩
    · left
      refine ⟨w1, fun q a b e => ?_⟩
      rcases Int.lt_or_eq_of_le (show q ≤ i by omega) with z | z
      · exact w2 q a z e
      · subst z; exact c ⟨e, Or.inl w1⟩
    · right
      refine ⟨w1, by omega, w3, fun q a b e f => ?_⟩
      rcases Int.lt_or_eq_of_le (show q ≤ i by omega) with z | z
      · exact w4 q a z e f
      · subst z
        right
        have : ¬ V 57 q < V 57 x := fun y => c ⟨⟨e, f⟩, Or.inr y⟩
        unfold prL
        omega
theorem pk_is {V : ax_M} {d h bits p : Int} (hp : 0 ≤ p ∧ p < 8) (h1 : avl V d h p = true) (h2 : tb bits p = false) (h3 : ∀ q, 0 ≤ q → q < 8 → avl V d h q = true → tb bits q = false → q = p ∨ prL V p q) : pk V d h bits = p := by
  rcases pk_inv V d h bits (n := 8) (by decide) with ⟨a, b⟩ | ⟨a, b, c, e⟩
  · exact absurd ⟨h1, h2⟩ (b p hp.1 hp.2)
  · have x := e p hp.1 hp.2 h1 h2
    have y := h3 _ a b c.1 c.2
    show itI (pkS V d h bits) (-1) 8 = p
    rcases x with x | x
    · exact x.symm
    · rcases y with y | y
      · exact y
      · exfalso
        unfold prL at x y
        omega
theorem pk_no {V : ax_M} {d h bits : Int} (hb : ∀ q, 0 ≤ q → q < 8 → avl V d h q = true → tb bits q = true) : pk V d h bits = -1 := by
  rcases pk_inv V d h bits (n := 8) (by decide) with ⟨a, b⟩ | ⟨a, b, c, e⟩
  · exact a
  · have := hb _ a b c.1
    rw [c.2] at this
    cases this
theorem prc_add {V : ax_M} {bits p : Int} (hp : 0 ≤ p ∧ p < 8) (hb : tb bits p = false) : prc V (nO bits (p2 p)) = prc V bits + V 57 p := by
  unfold prc
  have := itI_inv (f := fun p s => s + if tb bits p = true then V 57 p else 0) (a := 0) (p := 8) (fun i x => itI (fun k s => s + if tb (nO bits (p2 p)) k = true then V 57 k else 0) 0 i = x + if p < i then V 57 p else 0) (by decide) (by rw [itI_0, if_neg (by omega)]; rfl) (fun i x h0 h1 q => by
    rw [itI_s _ _ h0, q, tb_nO, tb_p2 hp.1 h0]
    by_cases e : i = p
    · subst e
      rw [hb, decide_eq_true rfl, if_neg (by omega : ¬ i < i), if_pos (by omega : i < i + 1), if_pos (by rfl), if_neg (by decide)]
    · rw [decide_eq_false e, Bool.or_false]
      by_cases z : p < i
      · rw [if_pos z, if_pos (by omega : p < i + 1)]; omega
      · rw [if_neg z, if_neg (by omega : ¬ p < i + 1)]; omega)
  rw [this, if_pos hp.2]
def SRn (V : ax_M) (o : Int → Int) (p : Int) : Prop := (∀ j, 0 ≤ j → j < p → 0 ≤ o j ∧ o j < p) ∧ (∀ j k, 0 ≤ j → j < k → k < p → prL V (o j) (o k)) ∧ (∀ q, 0 ≤ q → q < p → ∃ j, 0 ≤ j ∧ j < p ∧ o j = q)
def SRh (V : ax_M) (o : Int → Int) (p i : Int) : Prop := (∀ j, 0 ≤ j → j ≤ p → j ≠ i → 0 ≤ o j ∧ o j < p) ∧ (∀ j k, 0 ≤ j → j < k → k ≤ p → j ≠ i → k ≠ i → prL V (o j) (o k)) ∧ (∀ q, 0 ≤ q → q < p → ∃ j, 0 ≤ j ∧ j ≤ p ∧ j ≠ i ∧ o j = q) ∧ (∀ j, i < j → j ≤ p → V 57 p < V 57 (o j))
theorem SR_in {V : ax_M} {o : Int → Int} {p : Int} (h : SRn V o p) : SRh V o p p := ⟨fun j a b c => h.1 j a (by omega), fun j k a b c e f => h.2.1 j k a b (by omega), fun q a b => by obtain ⟨j, x, y, z⟩ := h.2.2 q a b; exact ⟨j, x, by omega, by omega, z⟩, fun j a b => by omega⟩
theorem SR_mv {V : ax_M} {M : ax_M} {p i : Int} (hi : 0 < i ∧ i ≤ p) (h : SRh V (M 23) p i) (hp : V 57 p < V 57 (M 23 (i - 1))) : SRh V (ms M 23 i (M 23 (i - 1)) 23) p (i - 1) := by
  obtain ⟨h1, h2, h3, h4⟩ := h
  refine ⟨fun j a b c => ?_, fun j k a b c e f => ?_, fun q a b => ?_, fun j a b => ?_⟩
  · rw [ms_e]
    split
    · exact h1 (i - 1) (by omega) (by omega) (by omega)
    · exact h1 j a b (by assumption)
  · rw [ms_e, ms_e]
    by_cases x : j = i
    · rw [if_pos x, if_neg (by omega)]
      exact h2 (i - 1) k (by omega) (by omega) c (by omega) (by omega)
    · rw [if_neg x]
      by_cases y : k = i
      · rw [if_pos y]
        exact h2 j (i - 1) a (by omega) (by omega) x (by omega)
      · rw [if_neg y]
        exact h2 j k a b c x y
  · obtain ⟨j, x, y, z, w⟩ := h3 q a b
    by_cases e : j = i - 1
    · exact ⟨i, by omega, by omega, by omega, by rw [ms_e, if_pos rfl, ← e]; exact w⟩
    · exact ⟨j, x, y, e, by rw [ms_e, if_neg z]; exact w⟩
  · rw [ms_e]
    split
    · exact hp
    · exact h4 j (by omega) b
theorem SR_out {V : ax_M} {M : ax_M} {p i : Int} (hi : 0 ≤ i ∧ i ≤ p) (h : SRh V (M 23) p i) (hp : i = 0 ∨ V 57 (M 23 (i - 1)) ≤ V 57 p) : SRn V (ms M 23 i p 23) (p + 1) := by
  obtain ⟨h1, h2, h3, h4⟩ := h
  refine ⟨fun j a b => ?_, fun j k a b c => ?_, fun q a b => ?_⟩
  · rw [ms_e]
    split
    · omega
    · have := h1 j a (by omega) (by assumption); omega
  · rw [ms_e, ms_e]
    by_cases x : j = i
    · rw [if_pos x, if_neg (by omega)]
      left
      exact h4 k (by omega) (by omega)
    · rw [if_neg x]
      by_cases y : k = i
      · rw [if_pos y]
        have r := h1 j a (by omega) x
        have : V 57 (M 23 j) ≤ V 57 p := by
          rcases hp with z | z
          · omega
          · by_cases e : j = i - 1
            · rw [e]; exact z
            · have := h2 j (i - 1) a (by omega) (by omega) x (by omega)
              unfold prL at this
              omega
        unfold prL
        omega
      · rw [if_neg y]
        exact h2 j k a b (by omega) x y
  · by_cases e : q = p
    · exact ⟨i, hi.1, by omega, by rw [ms_e, if_pos rfl]; exact e.symm⟩
    · obtain ⟨j, x, y, z, w⟩ := h3 q a (by omega)
      exact ⟨j, x, by omega, by rw [ms_e, if_neg z]; exact w⟩
def exS (k : Nat) (_ : Int) : Bool := decide (k = 23)
def exO (k : Nat) (_ : Int) : Bool := decide (18 ≤ k ∧ k ≤ 23)
theorem agc_fr {ex : Nat → Int → Bool} {V M M1 : ax_M} (h : AgC V M) (hf : frm ex M M1) (he : ∀ k i, (k = 0 ∨ k = 5 ∨ 10 ≤ k ∧ k ≤ 17 ∨ 30 ≤ k ∧ k ≤ 32) → ex k i = false) : AgC V M1 := by
  obtain ⟨a, b, c, d, e, f⟩ := h
  refine ⟨(hf 0 6 (he 0 6 (by omega))).trans a, fun k k0 k1 => ?_, fun p p0 p1 => ?_, fun h h0 h1 => (hf 16 h (he 16 h (by omega))).trans (d h h0 h1), fun j j0 j1 => (hf 17 j (he 17 j (by omega))).trans (e j j0 j1), fun k k0 k1 => ?_⟩
  · rw [hf 10 k (he 10 k (by omega)), hf 11 k (he 11 k (by omega)), hf 12 k (he 12 k (by omega)), hf 13 k (he 13 k (by omega)), hf 14 k (he 14 k (by omega))]
    exact b k k0 k1
  · rw [hf 15 _ (he 15 _ (by omega)), hf 15 _ (he 15 _ (by omega)), hf 15 _ (he 15 _ (by omega)), hf 15 _ (he 15 _ (by omega))]
    exact c p p0 p1
  · rw [hf 5 2 (he 5 2 (by omega)), hf 30 k (he 30 k (by omega)), hf 31 k (he 31 k (by omega)), hf 32 k (he 32 k (by omega))]
    exact f k k0 k1
theorem agc_S {V M M1 : ax_M} (h : AgC V M) (hf : frm exS M M1) : AgC V M1 := agc_fr h hf (fun k i e => decide_eq_false (by omega))
theorem agc_O {V M M1 : ax_M} (h : AgC V M) (hf : frm exO M M1) : AgC V M1 := agc_fr h hf (fun k i e => decide_eq_false (by omega))
def ROd (V M : ax_M) (d : Int) : Prop := M 19 d = bi (decide (V 53 (V 47 d) = 1)) ∧ M 20 d = bi (decide (V 54 (V 47 d) = 1))
def ROh (V M : ax_M) (d h : Int) : Prop := M 21 (d * 8 + h) = whoV V d h ∧ (cm V d h ≠ -3 → M 22 (d * 8 + h) = prc V (cm V d h))
def ROn (V M : ax_M) (n : Int) : Prop := ∀ d, 0 ≤ d → d < n → ROd V M d ∧ ∀ h, 0 ≤ h → h ≤ 7 → ROh V M d h
theorem RO_of {V M : ax_M} (h : ROn V M (V 9 2)) : RO V M := fun d a b => ⟨(h d a b).1.1, (h d a b).1.2, (h d a b).2⟩
