/-! the class's small methods, as functions on the memory -/
theorem ax_shp_33 : ax_shp 33 = (3, 4, [some 34, some 35, some 36, some 37]) := rfl
theorem rows_at {s : Int} (h : 0 ≤ s ∧ s ≤ 3) : ([some 34, some 35, some 36, some 37] : List (Option Nat))[s.toNat]? = some (some (34 + s.toNat)) := by
  rcases (show s = 0 ∨ s = 1 ∨ s = 2 ∨ s = 3 by omega) with rfl | rfl | rfl | rfl <;> rfl
theorem sa_rows {s : Int} (h : 0 ≤ s ∧ s ≤ 3) : ax_arr 0 (34 + s.toNat) 60 (-2147483648) 2147483647 := by
  rcases (show s = 0 ∨ s = 1 ∨ s = 2 ∨ s = 3 by omega) with rfl | rfl | rfl | rfl
  · exact sa_34
  · exact sa_35
  · exact sa_36
  · exact sa_37
def paM (M : ax_M) (d e : Int) : ax_M := ms (ms (ms M 24 (M 3 0) d) 25 (M 3 0) e) 3 0 (M 3 0 + 1)
def rcCS (M : ax_M) (pr i r : Int) : Int := if tb r (M 24 i) = true ∧ tb pr (M 24 i) = true ∧ tb pr (M 25 i) = true then nO r (p2 (M 25 i)) else r
def rcC (M : ax_M) (fr pr : Int) : Int := itI (fun _ r => itI (rcCS M pr) r (M 3 0)) fr 8
def rnR (M : ax_M) (s n : Int) : ax_M := itI (fun i M1 => ms M1 (34 + s.toNat) i 0) M n
def fndC (M : ax_M) (s f i : Int) : Int := if M 38 s = -1 then 1 else if M 38 s ≠ f then 3 else if 0 ≤ i ∧ i ≤ M 39 s - 1 then 0 else 2
def stV (M : ax_M) (s v : Int) : Int := if M 38 s = 0 then ax_b8 v else if M 38 s = 1 then ax_s16 v else v
def clB (M : ax_M) (a b : Int) : Bool := decide (M 40 a = M 40 b ∧ (M 42 a - M 42 b = 0 ∧ M 41 a - M 41 b ≠ 0 ∨ (M 42 a - M 42 b = 1 ∨ M 42 a - M 42 b = -1) ∧ (M 41 a - M 41 b > 2 ∨ M 41 a - M 41 b < -2)))
def mfS (n i : Int) (M1 : ax_M) : ax_M := if clB M1 i n = true then ms (ms M1 43 i (nO (M1 43 i) (p2 n))) 43 n (nO (ms M1 43 i (nO (M1 43 i) (p2 n)) 43 n) (p2 i)) else M1
def mfM (M : ax_M) (n : Int) : ax_M := itI (mfS n) (ms M 43 n 0) n
def sgM (M : ax_M) (p x h : Int) : ax_M := ms (ms (ms (ms (ms M 40 (M 7 0) p) 41 (M 7 0) x) 42 (M 7 0) h) 7 0 (M 7 0 + 1)) 7 6 1
def pcB (M : ax_M) (kept : Int) : Bool := allB (fun i => !(tb kept i && decide (nA (M 43 i) kept ≠ 0))) (M 7 0)
def shS (M : ax_M) (b : Int) (x : Int × Int) : Int × Int := if on b < x.2 ∧ pcB M (nD (p2 (M 7 0) - 1) b) = true then (b, on b) else x
def shB (M : ax_M) (n : Int) : Int × Int := itI (shS M) (p2 (M 7 0) - 1, M 7 0) n
theorem ab_f (x : Int) : (0 ≤ x ∧ (if 0 ≤ x then x else -x) = x) ∨ (x < 0 ∧ (if 0 ≤ x then x else -x) = -x) := by
  split <;> omega
theorem eucl {c r P : Int} (hr : 0 < r) (hc : r ≤ c) (hP : 0 ≤ P) : r * (c % r) * (2 * P) ≤ c * r * P := by
  have h1 := Int.emod_nonneg c (b := r) (by omega)
  have h2 := Int.emod_lt_of_pos c hr
  have h3 := Int.mul_ediv_add_emod c r
  have h4 : 1 ≤ c / r := by
    rw [Int.le_ediv_iff_mul_le hr]
    omega
  have h5 : r * 1 ≤ r * (c / r) := Int.mul_le_mul_of_nonneg_left h4 (by omega)
  have h6 : 2 * (c % r) ≤ c := by omega
  have h7 : 0 ≤ r * P := Int.mul_nonneg (by omega) hP
  have h8 := Int.mul_le_mul_of_nonneg_right h6 h7
  have e1 : r * (c % r) * (2 * P) = 2 * (c % r) * (r * P) := by
    rw [Int.mul_comm r (c % r), Int.mul_assoc, Int.mul_comm 2 (c % r), Int.mul_assoc]
    congr 1
    rw [Int.mul_left_comm]
  have e2 : c * r * P = c * (r * P) := Int.mul_assoc _ _ _
  omega
theorem eucl0 {c r : Int} (hr : 0 < r) (hc : r ≤ c) (h : c * r * p2 64 ≤ 4294967296) : False := by
  have e : p2 64 = 18446744073709551616 := by decide
  have h1 : 1 ≤ c * r := by
    have := Int.mul_pos (show 0 < c by omega) hr
    omega
  have := Int.mul_le_mul_of_nonneg_right h1 (show 0 ≤ p2 64 by omega)
  omega
