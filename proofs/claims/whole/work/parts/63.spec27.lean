/-! regrets: falling products beside choices -/
def fal (z m : Int) : Int := itI (fun i t => t * (if z - i < 0 then 0 else z - i)) 1 m
theorem fal_k : ∀ n : Fin 9, ∀ z : Fin 9, z.val ≤ n.val → ∀ m : Fin 9, m.val ≤ n.val → (0 ≤ fal ((z.val : Nat) : Int) ((m.val : Nat) : Int) ∧ fal ((z.val : Nat) : Int) ((m.val : Nat) : Int) ≤ fal ((n.val : Nat) : Int) ((m.val : Nat) : Int) ∧ 0 < fal ((n.val : Nat) : Int) ((m.val : Nat) : Int) ∧ fal ((n.val : Nat) : Int) ((m.val : Nat) : Int) ≤ 65536) ∧ ∀ w : Fin 2, lowV (fal ((z.val : Nat) : Int) ((m.val : Nat) : Int)) (fal ((n.val : Nat) : Int) ((m.val : Nat) : Int)) ((w.val : Nat) : Int) = lowV (chV ((z.val : Nat) : Int) ((m.val : Nat) : Int)) (chV ((n.val : Nat) : Int) ((m.val : Nat) : Int)) ((w.val : Nat) : Int) := by decide +kernel
theorem fal_eq {n z m w : Int} (hn : 0 ≤ n ∧ n ≤ 8) (hz : 0 ≤ z ∧ z ≤ n) (hm : 0 ≤ m ∧ m ≤ n) (hw : 0 ≤ w ∧ w ≤ 1) : (0 ≤ fal z m ∧ fal z m ≤ fal n m ∧ 0 < fal n m ∧ fal n m ≤ 65536) ∧ lowV (fal z m) (fal n m) w = lowV (chV z m) (chV n m) w := by
  obtain ⟨n, rfl⟩ : ∃ k : Nat, n = (k : Int) := ⟨n.toNat, by omega⟩
  obtain ⟨z, rfl⟩ : ∃ k : Nat, z = (k : Int) := ⟨z.toNat, by omega⟩
  obtain ⟨m, rfl⟩ : ∃ k : Nat, m = (k : Int) := ⟨m.toNat, by omega⟩
  obtain ⟨w, rfl⟩ : ∃ k : Nat, w = (k : Int) := ⟨w.toNat, by omega⟩
  have k := fal_k ⟨n, by omega⟩ ⟨z, by omega⟩ (by show z ≤ n; omega) ⟨m, by omega⟩ (by show m ≤ n; omega)
  exact ⟨k.1, k.2 ⟨w, by omega⟩⟩
