/-! the class's counts, crowds, what is spared, beside the state's -/
theorem rcC_r (M : ax_M) {fr pr : Int} (h : 0 ≤ fr ∧ fr < 256) (hn : 0 ≤ M 3 0) (h25 : ∀ i, 0 ≤ i → i < M 3 0 → 0 ≤ M 25 i ∧ M 25 i ≤ 7) : 0 ≤ rcC M fr pr ∧ rcC M fr pr < 256 := by
  unfold rcC
  refine itI_inv (f := fun _ r => itI (rcCS M pr) r (M 3 0)) (a := fr) (p := 8) (fun (_ : Int) (x : Int) => 0 ≤ x ∧ x < 256) (by decide) h (fun j x _ _ w => ?_)
  refine itI_inv (f := rcCS M pr) (a := x) (p := M 3 0) (fun (_ : Int) (y : Int) => 0 ≤ y ∧ y < 256) hn w (fun i y a b v => ?_)
  unfold rcCS
  split
  · have q := p2_le (a := M 25 i) (b := 7) (h25 i a b).2
    have q3 : p2 7 = 128 := rfl
    have q4 := p2_pos (M 25 i)
    exact nO_lt 8 v ⟨by omega, by show p2 _ < 256; omega⟩
  · exact v
theorem rc_eq {S M : ax_M} (sr : SR S) (h : RC S M) {x : Int} (hx : 0 ≤ x ∧ x < 256) : rcC M x (p2 (vw S 9 2) - 1) = rch (vw S) x ∧ 0 ≤ rcC M x (p2 (vw S 9 2) - 1) ∧ rcC M x (p2 (vw S 9 2) - 1) < 256 := by
  have N8 := vw_n8 sr
  have n30 : 0 ≤ S 9 30 := (sr 9 30 rfl).1
  have e0 : M 3 0 = S 9 30 := h.2.2.1.1
  have b8 : ∀ i, 0 ≤ S 68 i ∧ S 68 i ≤ 7 := fun i => sr 68 i rfl
  have b9 : ∀ i, 0 ≤ S 69 i ∧ S 69 i ≤ 7 := fun i => sr 69 i rfl
  have r := rcC_r M (pr := p2 (vw S 9 2) - 1) hx (by omega) (fun i a b => by rw [(h.2.2.1.2 i a (by omega)).2]; exact b9 i)
  refine ⟨?_, r⟩
  unfold rcC rch
  have inner : ∀ r0 : Int, 0 ≤ r0 → itI (rcCS M (p2 (vw S 9 2) - 1)) r0 (M 3 0) = itI (rcS (vw S)) r0 (vw S 9 30) ∧ 0 ≤ itI (rcS (vw S)) r0 (vw S 9 30) := fun r0 hr => by
    rw [e0]
    show itI (rcCS M (p2 (vw S 9 2) - 1)) r0 (S 9 30) = itI (rcS (vw S)) r0 (S 9 30) ∧ 0 ≤ itI (rcS (vw S)) r0 (S 9 30)
    have key : ∀ m : Nat, (m : Int) ≤ S 9 30 → itI (rcCS M (p2 (vw S 9 2) - 1)) r0 m = itI (rcS (vw S)) r0 m ∧ 0 ≤ itI (rcS (vw S)) r0 m := by
      intro m
      induction m with
      | zero => intro _; exact ⟨rfl, hr⟩
      | succ m ih =>
        intro hm
        have ih := ih (by omega)
        rw [show ((m + 1 : Nat) : Int) = (m : Int) + 1 by omega, itI_s _ _ (by omega), itI_s _ _ (by omega), ih.1]
        refine ⟨?_, nO_n⟩
        have z := h.2.2.1.2 (m : Int) (by omega) (by omega)
        have c8 := b8 m
        have c9 := b9 m
        show rcCS M (p2 (vw S 9 2) - 1) m _ = nO _ (if S 68 m < vw S 9 2 ∧ S 69 m < vw S 9 2 ∧ tb _ (S 68 m) = true then p2 (S 69 m) else 0)
        unfold rcCS
        rw [z.1, z.2, tb_all (by omega) c8.1, tb_all (by omega) c9.1]
        by_cases q : S 68 m < vw S 9 2 ∧ S 69 m < vw S 9 2 ∧ tb (itI (rcS (vw S)) r0 m) (S 68 m) = true
        · rw [if_pos ⟨q.2.2, decide_eq_true q.1, decide_eq_true q.2.1⟩, if_pos q]
        · rw [if_neg (fun w => q ⟨of_decide_eq_true w.2.1, of_decide_eq_true w.2.2, w.1⟩), if_neg q, nO_0 ih.2]
    have k := key (S 9 30).toNat (by omega)
    rw [show (((S 9 30).toNat : Nat) : Int) = S 9 30 by omega] at k
    exact k
  have outer : ∀ m : Nat, itI (fun _ r => itI (rcCS M (p2 (vw S 9 2) - 1)) r (M 3 0)) x m = itI (fun _ r => itI (rcS (vw S)) r (vw S 9 30)) x m ∧ 0 ≤ itI (fun _ r => itI (rcS (vw S)) r (vw S 9 30)) x m := by
    intro m
    induction m with
    | zero => exact ⟨rfl, hx.1⟩
    | succ m ih =>
      rw [show ((m + 1 : Nat) : Int) = (m : Int) + 1 by omega, itI_s _ _ (by omega), itI_s _ _ (by omega), ih.1]
      exact inner _ ih.2
  exact (outer 8).1
theorem ra_eq {S M : ax_M} (h : RC S M) : itI (fun h s => s + M 16 h) 0 8 = raN S := by
  unfold raN itI
  exact itI_cg _ (fun i x a b => by rw [h.2.1.2.1 i a (by have : i < 8 := b; omega)])
theorem cr_s (V : ax_M) {p h : Int} (hp : 0 ≤ p) (hh : 0 ≤ h ∧ h ≤ 7) (w : Int × Int) : crS V (p * 8 + h) w = if w.2 < askd V p h then (p * 8 + h, askd V p h) else w := by
  unfold crS
  rw [show (p * 8 + h) / 8 = p by omega, show (p * 8 + h) % 8 = h by omega]
/-- who and then, of the cell -/
def crW (c : Int) : Int := if c = -1 then -1 else c / 8
def crT (c : Int) : Int := if c = -1 then -1 else c % 8
