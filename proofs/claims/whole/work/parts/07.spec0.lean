/-! counting loops, as functions -/
def itN {α : Type} (f : Int → α → α) (a : α) : Nat → α
  | 0 => a
  | n + 1 => f (n : Int) (itN f a n)
def itI {α : Type} (f : Int → α → α) (a : α) (p : Int) : α := itN f a p.toNat
theorem itI_0 {α : Type} (f : Int → α → α) (a : α) : itI f a 0 = a := rfl
theorem itI_s {α : Type} (f : Int → α → α) (a : α) {p : Int} (h : 0 ≤ p) : itI f a (p + 1) = f p (itI f a p) := by
  unfold itI
  rw [show (p + 1).toNat = p.toNat + 1 by omega]
  show f ((p.toNat : Nat) : Int) _ = _
  rw [show ((p.toNat : Nat) : Int) = p by omega]
theorem itI_cg {α : Type} {f f' : Int → α → α} {a : α} : ∀ (n : Nat), (∀ (i : Int) (x : α), 0 ≤ i → i < n → f i x = f' i x) → itN f a n = itN f' a n
  | 0, _ => rfl
  | n + 1, h => by
    show f n (itN f a n) = f' n (itN f' a n)
    rw [itI_cg n (fun i x h0 h1 => h i x h0 (by omega)), h n _ (by omega) (by omega)]
theorem itI_inv {α : Type} (Q : Int → α → Prop) {f : Int → α → α} {a : α} {p : Int} (hp : 0 ≤ p) (h0 : Q 0 a) (hs : ∀ (i : Int) (x : α), 0 ≤ i → i < p → Q i x → Q (i + 1) (f i x)) : Q p (itI f a p) := by
  have : ∀ n : Nat, (n : Int) ≤ p → Q n (itN f a n) := by
    intro n
    induction n with
    | zero => intro _; exact h0
    | succ n ih =>
      intro hn
      have := hs n (itN f a n) (by omega) (by omega) (ih (by omega))
      show Q ((n + 1 : Nat) : Int) (f n (itN f a n))
      rw [show ((n + 1 : Nat) : Int) = (n : Int) + 1 by omega]
      exact this
  have h := this p.toNat (by omega)
  rw [show ((p.toNat : Nat) : Int) = p by omega] at h
  exact h
/-- how many of the lowest ten bits -/
def on (b : Int) : Int := itI (fun k n => n + bi (tb b k)) 0 10
theorem on_r (b : Int) : 0 ≤ on b ∧ on b ≤ 10 := by
  unfold on
  refine itI_inv (fun i x => 0 ≤ x ∧ x ≤ i) (by decide) (by decide) (fun i x h0 h1 q => ?_)
  have := bi_r (tb b i)
  omega
/-- of a KIND's letter -/
def kV (b : Int) : Int := if b = 112 then 0 else if b = 114 then 1 else if b = 116 then 2 else if b = 115 then 3 else -1
theorem kV_r (b : Int) : -1 ≤ kV b ∧ kV b ≤ 3 := by
  unfold kV
  split
  · omega
  · split
    · omega
    · split
      · omega
      · split <;> omega
def fgV (b lo up : Int) : Int := if lo ≤ b - 48 ∧ b - 48 ≤ up then b - 48 else -1
/-- the part above or below of a fraction in lowest terms -/
def lowV (a b w : Int) : Int := if w = 0 then a / ((Int.gcd a b : Nat) : Int) else b / ((Int.gcd a b : Nat) : Int)
def bcV (x : Int) : Int :=
  let a1 := x - ax_and (ax_ushr x 1) 1431655765
  let a2 := ax_and a1 858993459 + ax_and (ax_ushr a1 2) 858993459
  let a3 := ax_and (a2 + ax_ushr a2 4) 252645135
  let a4 := a3 + ax_ushr a3 8
  let a5 := a4 + ax_ushr a4 16
  ax_and a5 63
set_option maxRecDepth 100000 in
theorem bcV_on {x : Int} (h : 0 ≤ x ∧ x ≤ 1023) : bcV x = on x := by
  have key : ∀ m : Fin 1024, bcV ((m.val : Nat) : Int) = on ((m.val : Nat) : Int) := by decide +kernel
  have := key ⟨x.toNat, by omega⟩
  rw [show (((⟨x.toNat, by omega⟩ : Fin 1024).val : Nat) : Int) = x by show ((x.toNat : Nat) : Int) = x; omega] at this
  exact this
def chV (n k : Int) : Int := if k < 0 ∨ k > n then 0 else itI (fun j b => b * (n - k + (j + 1)) / (j + 1)) 1 k
section AXM
variable {X : ax_X} {cc : ByteArray} {own : String} {n pc : Nat} {lv : List (Option ax_V)} {rest st : List ax_V} {M : ax_M}
theorem rr_max {a b : Int} {idx : Nat} (B : ax_b X cc own n) (hd : decode cc pc = .ok (.invokestatic idx, 3)) (hn1 : 1 ≤ n) (hlk : Cond.methodLink own idx Lib.Math.max.name ∈ ax_big) (hr : -2147483648 ≤ a ∧ a ≤ 2147483647 ∧ -2147483648 ≤ b ∧ b ≤ 2147483647) (hrs : ax_rs rest ≤ 8) (k : AW X (pc + 3) lv (aI (if a < b then b else a) :: rest) M) : AW X pc lv (aI b :: aI a :: rest) M := by
  intro hG H locs ls hP hS hl hn
  have hR := B.2.2.2.2.2.2.2.2.2
  refine va_mmax B.1 B.2.1 (by rw [B.2.2.1]; exact hl.1.symm) B.2.2.2.1 (B.2.2.2.2.1 _ hlk) (B.2.2.2.2.1 _ st_J_max.2) (B.2.2.2.2.1 _ st_J_max.1.2.1) (B.2.2.2.2.1 _ st_J_max.1.1) (Nat.le_trans hn1 hR.1.1) (by rw [ax_rs_cat]; have := hR.1.2; omega) hR.2.1 hR.2.2 hd ?_
  rw [show (if ax_i a < ax_i b then ax_i b else ax_i a) = ax_i (if a < b then b else a) by
    have e := ax_i_lt hr
    by_cases q : a < b
    · rw [if_pos q, if_pos (e.mpr q)]
    · rw [if_neg q, if_neg (fun w => q (e.mp w))]]
  exact k hG H locs ls hP hS hl hn
theorem rr_min {a b : Int} {idx : Nat} (B : ax_b X cc own n) (hd : decode cc pc = .ok (.invokestatic idx, 3)) (hn1 : 1 ≤ n) (hlk : Cond.methodLink own idx Lib.Math.min.name ∈ ax_big) (hr : -2147483648 ≤ a ∧ a ≤ 2147483647 ∧ -2147483648 ≤ b ∧ b ≤ 2147483647) (hrs : ax_rs rest ≤ 8) (k : AW X (pc + 3) lv (aI (if b < a then b else a) :: rest) M) : AW X pc lv (aI b :: aI a :: rest) M := by
  intro hG H locs ls hP hS hl hn
  have hR := B.2.2.2.2.2.2.2.2.2
  refine va_mmin B.1 B.2.1 (by rw [B.2.2.1]; exact hl.1.symm) B.2.2.2.1 (B.2.2.2.2.1 _ hlk) (B.2.2.2.2.1 _ st_J_min.2) (B.2.2.2.2.1 _ st_J_min.1.2.1) (B.2.2.2.2.1 _ st_J_min.1.1) (Nat.le_trans hn1 hR.1.1) (by rw [ax_rs_cat]; have := hR.1.2; omega) hR.2.1 hR.2.2 hd ?_
  rw [show (if ax_i b < ax_i a then ax_i b else ax_i a) = ax_i (if b < a then b else a) by
    have e := ax_i_lt (a := b) (b := a) (by omega)
    by_cases q : b < a
    · rw [if_pos q, if_pos (e.mpr q)]
    · rw [if_neg q, if_neg (fun w => q (e.mp w))]]
  exact k hG H locs ls hP hS hl hn
theorem rr_abs {a : Int} {idx : Nat} (B : ax_b X cc own n) (hd : decode cc pc = .ok (.invokestatic idx, 3)) (hn1 : 1 ≤ n) (hlk : Cond.methodLink own idx Lib.Math.abs.name ∈ ax_big) (hr : -2147483648 ≤ a ∧ a ≤ 2147483647) (hrs : ax_rs rest ≤ 8) (k : AW X (pc + 3) lv (aI (if 0 ≤ a then a else -a) :: rest) M) : AW X pc lv (aI a :: rest) M := by
  intro hG H locs ls hP hS hl hn
  have hR := B.2.2.2.2.2.2.2.2.2
  refine va_mabs B.1 B.2.1 (by rw [B.2.2.1]; exact hl.1.symm) B.2.2.2.1 (B.2.2.2.2.1 _ hlk) (B.2.2.2.2.1 _ st_J_abs.2) (B.2.2.2.2.1 _ st_J_abs.1.2.1) (B.2.2.2.2.1 _ st_J_abs.1.1) (Nat.le_trans hn1 hR.1.1) (by rw [ax_rs_cat]; have := hR.1.2; omega) hR.2.1 hR.2.2 hd ?_
  rw [show (if 0 ≤ ax_i a then ax_i a else 0 - ax_i a) = ax_i (if 0 ≤ a then a else -a) by
    have e := ax_i_le (a := 0) (b := a) (by omega)
    rw [ax_i_0] at e
    by_cases q : 0 ≤ a
    · rw [if_pos q, if_pos (e.mpr q)]
    · rw [if_neg q, if_neg (fun w => q (e.mp w))]
      unfold ax_i
      rw [Int32.ofInt_neg, Int32.zero_sub]]
  exact k hG H locs ls hP hS hl hn
end AXM
theorem rr_rg {X : ax_X} {pc : Nat} {lv : List (Option ax_V)} {st : List ax_V} {M : ax_M} (h : RG M → AW X pc lv st M) : AW X pc lv st M := fun hG => h hG hG
