/-! odds, step by step -/
def tp (V : ax_M) (b n : Int) : Int := itI (fun p t => if tb b p = true then t * (16 - V 58 p) else t) 1 n
theorem tp_s (V : ax_M) (b : Int) {n : Int} (h : 0 ≤ n) : tp V b (n + 1) = if tb b n = true then tp V b n * (16 - V 58 n) else tp V b n := itI_s _ _ h
theorem bt_s (b : Int) {n : Int} (h : 0 ≤ n) : bt b (n + 1) = if tb b n = true then bt b n * 16 else bt b n := itI_s _ _ h
theorem tp_r {V : ax_M} (hV : ∀ p, 0 ≤ V 58 p ∧ V 58 p ≤ 16) (b : Int) {n : Int} (hn : 0 ≤ n) : 0 ≤ tp V b n ∧ tp V b n ≤ bt b n := by
  have key : ∀ m : Nat, 0 ≤ tp V b m ∧ tp V b m ≤ bt b m := by
    intro m
    induction m with
    | zero => show (0 : Int) ≤ 1 ∧ (1 : Int) ≤ 1; decide
    | succ m ih =>
      rw [show ((m + 1 : Nat) : Int) = (m : Int) + 1 by omega, tp_s V b (by omega), bt_s b (by omega)]
      split
      · have v := hV (m : Int)
        exact ⟨Int.mul_nonneg ih.1 (by omega), Int.mul_le_mul ih.2 (by omega) (by omega) (by omega)⟩
      · exact ih
  have k := key n.toNat
  rw [show ((n.toNat : Nat) : Int) = n by omega] at k
  exact k
theorem o_yes {V : ax_M} {d h : Int} (l : lik V d h < V 60 3) : oTop V d h = tp V (cm V d h) 8 ∧ oBot V d h = bt (cm V d h) 8 := by
  unfold oTop oBot tp bt
  exact ⟨itI_cg _ (fun p t _ _ => if_cg ⟨fun z => z.1, fun z => ⟨z, l⟩⟩), itI_cg _ (fun p t _ _ => if_cg ⟨fun z => z.1, fun z => ⟨z, l⟩⟩)⟩
theorem o_no {V : ax_M} {d h : Int} (l : ¬ lik V d h < V 60 3) : oTop V d h = 1 ∧ oBot V d h = 1 := by
  unfold oTop oBot
  exact ⟨itI_inv (fun _ x => x = 1) (by decide) rfl (fun p t _ _ w => by rw [if_neg (fun z => l z.2)]; exact w), itI_inv (fun _ x => x = 1) (by decide) rfl (fun p t _ _ w => by rw [if_neg (fun z => l z.2)]; exact w)⟩
