/-! the deeds without hope -/
theorem on_s {d r : Int} (hd : 0 ≤ d ∧ d ≤ 7) (hr : 0 ≤ r ∧ r < p2 d) : on (nO r (p2 d)) = on r + 1 := by
  have key : ∀ d : Fin 8, ∀ r : Fin 128, r.val < 2 ^ d.val → on (nO ((r.val : Nat) : Int) (p2 ((d.val : Nat) : Int))) = on ((r.val : Nat) : Int) + 1 := by decide +kernel
  obtain ⟨d, rfl⟩ : ∃ k : Nat, d = (k : Int) := ⟨d.toNat, by omega⟩
  obtain ⟨r, rfl⟩ : ∃ k : Nat, r = (k : Int) := ⟨r.toNat, by omega⟩
  have pl := p2_le (a := (d : Int)) (b := 7) hd.2
  have p7 : p2 7 = 128 := rfl
  have e : p2 (d : Int) = ((2 ^ d : Nat) : Int) := by
    have k3 : ∀ m : Fin 8, p2 ((m.val : Nat) : Int) = ((2 ^ m.val : Nat) : Int) := by decide +kernel
    exact k3 ⟨d, by omega⟩
  exact key ⟨d, by omega⟩ ⟨r, by omega⟩ (by show r < 2 ^ d; omega)
theorem hop_on (V : ax_M) {n : Int} (hn : 0 ≤ n ∧ n ≤ 8) : on (hopD V n) = n - nev V n ∧ (0 ≤ nev V n ∧ nev V n ≤ n) := by
  have key : ∀ m : Nat, (m : Int) ≤ 8 → on (hopD V m) = m - nev V m ∧ (0 ≤ nev V m ∧ nev V m ≤ m) ∧ (0 ≤ hopD V m ∧ hopD V m < p2 m) := by
    intro m
    induction m with
    | zero =>
      intro _
      show on 0 = 0 - 0 ∧ ((0 : Int) ≤ 0 ∧ (0 : Int) ≤ 0) ∧ ((0 : Int) ≤ 0 ∧ (0 : Int) < p2 0)
      decide
    | succ m ih =>
      intro hm
      obtain ⟨i1, i2, i3⟩ := ih (by omega)
      have s1 : hopD V ((m : Int) + 1) = nO (hopD V m) (if hrs V m = 0 then 0 else p2 m) := itI_s _ _ (by omega)
      have s2 : nev V ((m : Int) + 1) = nev V m + if hrs V m = 0 then 1 else 0 := itI_s _ _ (by omega)
      have p := p2_s (k := (m : Int)) (by omega)
      rw [show ((m + 1 : Nat) : Int) = (m : Int) + 1 by omega, s1, s2]
      by_cases q : hrs V m = 0
      · rw [if_pos q, if_pos q, nO_0 i3.1]
        exact ⟨by omega, by omega, by omega⟩
      · rw [if_neg q, if_neg q, on_s (by omega) i3]
        refine ⟨by omega, by omega, nO_n, ?_⟩
        rw [← p2_add (by omega) i3]
        omega
  have k := key n.toNat (by omega)
  rw [show ((n.toNat : Nat) : Int) = n by omega] at k
  exact ⟨k.1, k.2.1⟩
theorem fal_s (z : Int) {i : Int} (h : 0 ≤ i) : fal z (i + 1) = fal z i * (if z - i < 0 then 0 else z - i) := itI_s _ _ h
