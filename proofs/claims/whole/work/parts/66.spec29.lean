/-! odds: at most four come, so products stay small -/
theorem on_1 {b q : Int} (hb : 0 ≤ b ∧ b < 256) (hq : 0 ≤ q ∧ q ≤ 7) : on (nO b (p2 q)) ≤ on b + 1 := by
  have key : ∀ q : Fin 8, ∀ b : Fin 256, on (nO ((b.val : Nat) : Int) (p2 ((q.val : Nat) : Int))) ≤ on ((b.val : Nat) : Int) + 1 := by decide +kernel
  obtain ⟨q, rfl⟩ : ∃ k : Nat, q = (k : Int) := ⟨q.toNat, by omega⟩
  obtain ⟨b, rfl⟩ : ∃ k : Nat, b = (k : Int) := ⟨b.toNat, by omega⟩
  exact key ⟨q, by omega⟩ ⟨b, by omega⟩
theorem cIt_on (V : ax_M) (d h : Int) : ∀ (k : Nat) (b : Int), 0 ≤ b ∧ b < 256 → cIt V d h k b = -3 ∨ on (cIt V d h k b) ≤ on b + k
  | 0, b, _ => Or.inr (by show on b ≤ on b + 0; omega)
  | k + 1, b, hb => by
    unfold cIt
    split
    · left; rfl
    · next q =>
      have h1 := pk_r V d h b
      have h2 := p2_le (a := pk V d h b) (b := 7) h1.2
      have h3 : p2 7 = 128 := rfl
      have h4 := p2_pos (pk V d h b)
      have o := on_1 hb (q := pk V d h b) (by omega)
      have nb : 0 ≤ nO b (p2 (pk V d h b)) ∧ nO b (p2 (pk V d h b)) < 256 := nO_lt 8 hb ⟨by omega, by show p2 (pk V d h b) < 256; omega⟩
      rcases cIt_on V d h k (nO b (p2 (pk V d h b))) nb with z | z
      · left; exact z
      · right; omega
theorem cm_on {V : ax_M} {d h : Int} (h4 : V 52 (V 47 d) ≤ 4) (n : cm V d h ≠ -3) : on (cm V d h) ≤ 4 := by
  have nd : need V d ≤ 4 := by unfold need; split <;> omega
  unfold cm at n ⊢
  split at n
  · exact absurd rfl n
  · next q =>
    rw [if_neg q]
    rcases cIt_on V d h (need V d).toNat 0 (by omega) with z | z
    · exact absurd z n
    · have o0 : on 0 = 0 := by decide
      omega
def bt (b n : Int) : Int := itI (fun p t => if tb b p = true then t * 16 else t) 1 n
theorem bt_r {b n : Int} (hb : 0 ≤ b ∧ b < 256) (o : on b ≤ 4) (hn : 0 ≤ n ∧ n ≤ 8) : 0 < bt b n ∧ bt b n ≤ 65536 := by
  have key : ∀ b : Fin 256, on ((b.val : Nat) : Int) ≤ 4 → ∀ n : Fin 9, 0 < bt ((b.val : Nat) : Int) ((n.val : Nat) : Int) ∧ bt ((b.val : Nat) : Int) ((n.val : Nat) : Int) ≤ 65536 := by decide +kernel
  obtain ⟨n, rfl⟩ : ∃ k : Nat, n = (k : Int) := ⟨n.toNat, by omega⟩
  obtain ⟨b, rfl⟩ : ∃ k : Nat, b = (k : Int) := ⟨b.toNat, by omega⟩
  exact key ⟨b, by omega⟩ o ⟨n, by omega⟩
