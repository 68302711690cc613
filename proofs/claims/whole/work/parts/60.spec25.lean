/-! the fewest false sightings -/
theorem arF_sym (S : ax_M) (a b : Int) : arF S a b = arF S b a := by
  unfold arF
  rw [Bool.eq_iff_iff, decide_eq_true_iff, decide_eq_true_iff]
  constructor <;> (rintro ⟨x, y⟩; exact ⟨x.symm, by omega⟩)
theorem bit_ex {x : Int} (h0 : 0 ≤ x) (h : x ≠ 0) : ∃ k, 0 ≤ k ∧ tb x k = true := by
  rcases Classical.em (∃ k, 0 ≤ k ∧ tb x k = true) with q | q
  · exact q
  · exact absurd (tb_ext h0 (Int.le_refl 0) (fun k hk => by
      rw [tb_0]
      cases e : tb x k
      · rfl
      · exact absurd ⟨k, hk, e⟩ q)) h
theorem nA_n (a b : Int) : 0 ≤ nA a b := by unfold nA; omega
theorem pc_ok {S M : ax_M} (sr : SR S) (h : RC S M) (b : Int) : pcB M (nD (p2 (S 9 26) - 1) b) = okH S b := by
  have n0 : 0 ≤ S 9 26 ∧ S 9 26 ≤ 10 := sr 9 26 rfl
  have e7 : M 7 0 = S 9 26 := h.2.2.2.1.1
  have kp : ∀ i, 0 ≤ i → tb (nD (p2 (S 9 26) - 1) b) i = (decide (i < S 9 26) && !tb b i) := fun i a => by
    rw [tb_nD, tb_all (by omega) a]
  unfold pcB okH
  rw [e7, Bool.eq_iff_iff, allB_iff n0.1, allB_iff n0.1]
  constructor
  · intro w a a0 a1
    rw [allB_iff a0]
    intro c c0 c1
    have z := w a a0 a1
    rw [kp a a0] at z
    cases ha : tb b a
    · cases hc : tb b c
      · cases har : arF S a c
        · rfl
        · exfalso
          have f := ((h.2.2.2.1.2.1 a a0 a1).2 c c0).mpr ⟨by omega, by omega, har⟩
          have k : nA (M 43 a) (nD (p2 (S 9 26) - 1) b) ≠ 0 := fun q => by
            have y : tb (nA (M 43 a) (nD (p2 (S 9 26) - 1) b)) c = true := by
              rw [tb_nA, f, kp c c0, hc]
              simp
              omega
            rw [q, tb_0] at y
            cases y
          rw [ha, decide_eq_true a1, decide_eq_true k] at z
          cases z
      · rfl
    · rfl
  · intro w i i0 i1
    rw [kp i i0]
    cases hi : tb b i
    · cases hk : decide (nA (M 43 i) (nD (p2 (S 9 26) - 1) b) ≠ 0)
      · simp
      · exfalso
        obtain ⟨j, j0, j1⟩ := bit_ex (nA_n _ _) (of_decide_eq_true hk)
        rw [tb_nA, kp j j0] at j1
        have j2 : tb (M 43 i) j = true ∧ (decide (j < S 9 26) && !tb b j) = true := by
          revert j1
          cases tb (M 43 i) j <;> simp
        have f := ((h.2.2.2.1.2.1 i i0 i1).2 j j0).mp j2.1
        have hj : tb b j = false := by
          have := j2.2
          revert this
          cases tb b j <;> simp
        rcases Int.lt_or_le j i with q | q
        · have z := (allB_iff i0).mp (w i i0 i1) j j0 q
          rw [hi, hj, f.2.2] at z
          cases z
        · have z := (allB_iff j0).mp (w j j0 f.1) i i0 (by omega)
          rw [hi, hj, arF_sym, f.2.2] at z
          cases z
    · simp
theorem on_lt {n b : Int} (hn : 0 ≤ n ∧ n ≤ 10) (hb : 0 ≤ b) : (b < p2 n - 1 → on b < n) ∧ on (p2 n - 1) = n := by
  have key : ∀ m : Fin 11, ∀ c : Fin 1024, c.val < 2 ^ m.val - 1 → on ((c.val : Nat) : Int) < ((m.val : Nat) : Int) := by decide +kernel
  have key2 : ∀ m : Fin 11, on (((2 ^ m.val - 1 : Nat) : Nat) : Int) = ((m.val : Nat) : Int) := by decide +kernel
  have e : p2 n = ((2 ^ n.toNat : Nat) : Int) := by
    have k3 : ∀ m : Fin 11, p2 ((m.val : Nat) : Int) = ((2 ^ m.val : Nat) : Int) := by decide +kernel
    have := k3 ⟨n.toNat, by omega⟩
    rw [show (((⟨n.toNat, by omega⟩ : Fin 11).val : Nat) : Int) = n by show ((n.toNat : Nat) : Int) = n; omega] at this
    exact this
  have p1 : 1 ≤ 2 ^ n.toNat := Nat.one_le_two_pow
  have pl := p2_le (a := n) (b := 10) hn.2
  have p10 : p2 10 = 1024 := rfl
  constructor
  · intro q
    have := key ⟨n.toNat, by omega⟩ ⟨b.toNat, by omega⟩ (by show b.toNat < 2 ^ n.toNat - 1; omega)
    rw [show (((⟨b.toNat, by omega⟩ : Fin 1024).val : Nat) : Int) = b by show ((b.toNat : Nat) : Int) = b; omega] at this
    have this : on b < ((n.toNat : Nat) : Int) := this
    omega
  · have := key2 ⟨n.toNat, by omega⟩
    rw [show (((2 ^ (⟨n.toNat, by omega⟩ : Fin 11).val - 1 : Nat) : Nat) : Int) = p2 n - 1 by rw [e]; show (((2 ^ n.toNat - 1 : Nat)) : Int) = _; omega] at this
    rw [this]
    show ((n.toNat : Nat) : Int) = n
    omega
theorem hat_eq {S M : ax_M} (sr : SR S) (h : RC S M) : (shB M (p2 (M 7 0) - 1)).1 = htB S := by
  have n0 : 0 ≤ S 9 26 ∧ S 9 26 ≤ 10 := sr 9 26 rfl
  have e7 : M 7 0 = S 9 26 := h.2.2.2.1.1
  have p1 := p2_pos (S 9 26)
  rw [e7]
  have key : ∀ m : Nat, (m : Int) ≤ p2 (S 9 26) - 1 → (itI (htS S) (-1) m = -1 ∧ shB M m = (p2 (S 9 26) - 1, S 9 26)) ∨ (0 ≤ itI (htS S) (-1) m ∧ itI (htS S) (-1) m < m ∧ shB M m = (itI (htS S) (-1) m, on (itI (htS S) (-1) m))) := by
    intro m
    induction m with
    | zero =>
      intro _
      left
      refine ⟨rfl, ?_⟩
      show (p2 (M 7 0) - 1, M 7 0) = _
      rw [e7]
    | succ m ih =>
      intro hm
      have o := (on_lt n0 (b := (m : Int)) (by omega)).1 (by omega)
      have s1 : itI (htS S) (-1) ((m : Int) + 1) = htS S m (itI (htS S) (-1) m) := itI_s _ _ (by omega)
      have s2 : shB M ((m : Int) + 1) = shS M m (shB M m) := itI_s _ _ (by omega)
      have pk := pc_ok sr h (m : Int)
      rw [show ((m + 1 : Nat) : Int) = (m : Int) + 1 by omega, s1, s2]
      have ih := ih (by omega)
      clear s1 s2
      generalize itI (htS S) (-1) (m : Int) = Y at ih ⊢
      unfold htS shS
      rw [e7, pk]
      rcases ih with ⟨y, x⟩ | ⟨y0, y1, x⟩
      · rw [x, y, if_pos (Or.inl rfl)]
        cases ok : okH S (m : Int)
        · left
          rw [if_neg (by decide), if_neg (by rintro ⟨-, q⟩; cases q)]
          exact ⟨rfl, rfl⟩
        · right
          rw [if_pos rfl, if_pos ⟨o, rfl⟩]
          exact ⟨by omega, by omega, rfl⟩
      · right
        rw [x]
        by_cases q : on (m : Int) < on Y
        · rw [if_pos (Or.inr q)]
          cases ok : okH S (m : Int)
          · rw [if_neg (by decide), if_neg (by rintro ⟨-, q⟩; cases q)]
            exact ⟨y0, by omega, rfl⟩
          · rw [if_pos rfl, if_pos ⟨q, rfl⟩]
            exact ⟨by omega, by omega, rfl⟩
        · rw [if_neg (by omega), if_neg (fun z => q z.1)]
          exact ⟨y0, by omega, rfl⟩
  have k := key (p2 (S 9 26) - 1).toNat (by omega)
  rw [show (((p2 (S 9 26) - 1).toNat : Nat) : Int) = p2 (S 9 26) - 1 by omega] at k
  have t : htB S = htS S (p2 (S 9 26) - 1) (itI (htS S) (-1) (p2 (S 9 26) - 1)) := by
    have z : itI (htS S) (-1) (p2 (S 9 26) - 1 + 1) = htS S (p2 (S 9 26) - 1) (itI (htS S) (-1) (p2 (S 9 26) - 1)) := itI_s _ _ (by omega)
    rw [show p2 (S 9 26) - 1 + 1 = p2 (S 9 26) by omega] at z
    exact z
  have oa := (on_lt n0 (b := 0) (by omega)).2
  rw [t]
  clear t key
  generalize itI (htS S) (-1) (p2 (S 9 26) - 1) = Y at k ⊢
  unfold htS
  rcases k with ⟨y, x⟩ | ⟨y0, y1, x⟩
  · rw [x, y, if_pos (Or.inl rfl), if_pos (okH_all n0.1 (fun a a0 a1 => by rw [tb_all (by omega) a0]; exact decide_eq_true a1))]
  · have o := (on_lt n0 y0).1 y1
    rw [x, if_neg (by rw [oa]; omega)]
theorem RC_hat {S M : ax_M} {v : Int} (h : RC S M) (e : v = htB S) : RC S (ms (ms M 7 5 v) 7 6 0) := by
  obtain ⟨a, b, c⟩ := h.2.2.2.1
  exact RC_pg h (fun _ _ _ _ => rfl) (fun k i q _ => by rw [ms_k q, ms_k q]) ⟨a, b, fun _ => e⟩
