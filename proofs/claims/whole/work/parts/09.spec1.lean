/-! the class's readers of the two texts, as functions on the memory -/
def tiM (M : ax_M) (k : Nat) (v : Int) : ax_M := if v = -1 then M else ms (ms M k (M 0 8) v) 0 9 (ms M k (M 0 8) v 0 9 + 1)
def twB (M : ax_M) (b : Int) : Bool := decide (b = 59 ∧ M 14 (M 0 8) ≠ 0 ∨ (0 ≤ b - 65 ∧ b - 65 ≤ 7) ∧ tb (M 14 (M 0 8)) (b - 65) = false)
def twM (M : ax_M) (b : Int) : ax_M := if b = 59 ∧ M 14 (M 0 8) ≠ 0 then ms (ms M 0 8 (M 0 8 + 1)) 0 9 0 else if (0 ≤ b - 65 ∧ b - 65 ≤ 7) ∧ tb (M 14 (M 0 8)) (b - 65) = false then ms M 14 (M 0 8) (nO (M 14 (M 0 8)) (p2 (b - 65))) else M
def wtV (b : Int) : Int := if b = 114 then 1 else if b = 100 then 0 else -1
def goB (M : ax_M) (b : Int) : Bool := if 8 ≤ M 0 8 then false else if M 0 9 = 0 then decide (kV b ≠ -1) else if M 0 9 = 1 then decide (fgV b 0 5 ≠ -1) else if M 0 9 = 2 then decide (wtV b ≠ -1) else if M 0 9 = 3 then decide (fgV b 1 9 ≠ -1) else twB M b
def goM (M : ax_M) (b : Int) : ax_M := if 8 ≤ M 0 8 then M else if M 0 9 = 0 then tiM (ms M 14 (M 0 8) 0) 10 (kV b) else if M 0 9 = 1 then tiM M 11 (fgV b 0 5) else if M 0 9 = 2 then tiM M 12 (wtV b) else if M 0 9 = 3 then tiM M 13 (fgV b 1 9) else twM M b
def tk1 (M : ax_M) (b : Int) : ax_M := if M 0 10 = -1 then (if goB M b = true then goM M b else ms (goM M b) 0 10 (goM M b 0 5)) else M
def fi2 (M : ax_M) : ax_M := ms M 0 5 (M 0 5 + 1)
def fi3 (M : ax_M) : ax_M := ms M 0 7 (if M 0 10 ≠ -1 ∨ M 0 8 < 8 ∧ M 0 9 = 4 ∧ M 14 (M 0 8) ≠ 0 then M 0 10 else M 0 5)
def fi4 (M : ax_M) : ax_M := ms M 0 6 (if M 0 7 = -1 then M 0 8 + 1 else 0)
def tkD (M : ax_M) (b : Int) : ax_M := fi4 (fi3 (fi2 (tk1 M b)))
def clD (M : ax_M) : ax_M := ms (ms (ms (ms (ms (ms M 0 5 0) 0 6 0) 0 7 (-1)) 0 8 0) 0 9 0) 0 10 (-1)
theorem fgV_r {b lo up : Int} : fgV b lo up = -1 ∨ lo ≤ fgV b lo up ∧ fgV b lo up ≤ up := by
  unfold fgV
  split
  · right; assumption
  · left; rfl
theorem wtV_r {b : Int} : wtV b = -1 ∨ 0 ≤ wtV b ∧ wtV b ≤ 1 := by
  unfold wtV
  split
  · omega
  · split <;> omega
theorem ms_0 (M : ax_M) (k : Nat) (i v : Int) (h : k ≠ 0) : ms M k i v 0 = M 0 := ms_ne (Ne.symm h)
/-! rules -/
def sayM (M : ax_M) (k v : Int) : ax_M := ms (ms (ms M 30 k v) 31 k 0) 32 k 0
def rgB (M : ax_M) (b : Int) : Bool := if M 5 8 = 0 then decide (kV b ≠ -1) else if M 5 8 = 1 then decide (fgV b 0 4 ≠ -1) else decide (b = 59 ∨ b = 119 ∧ M 5 8 < 3 ∨ b = 104 ∧ M 5 8 < 4)
def rmM (M : ax_M) (b : Int) : ax_M := if b = 59 then ms M 5 8 0 else if b = 119 ∧ M 5 8 < 3 then ms (ms M 31 (M 5 7) 1) 5 8 3 else if b = 104 ∧ M 5 8 < 4 then ms (ms M 32 (M 5 7) 1) 5 8 4 else M
def rkM (M : ax_M) (v : Int) : ax_M := if v = -1 then M else ms (ms M 5 7 v) 5 8 1
def rnM (M : ax_M) (v : Int) : ax_M := if v = -1 then M else ms (ms (sayM M (M 5 7) v) 5 6 (sayM M (M 5 7) v 5 6 + 1)) 5 8 2
def rgM (M : ax_M) (b : Int) : ax_M := if M 5 8 = 0 then rkM M (kV b) else if M 5 8 = 1 then rnM M (fgV b 0 4) else rmM M b
def rk1 (M : ax_M) (b : Int) : ax_M := if M 5 9 = -1 then (if rgB M b = true then rgM M b else ms (rgM M b) 5 9 (rgM M b 5 0)) else M
def rf2 (M : ax_M) : ax_M := ms M 5 0 (M 5 0 + 1)
def rf3 (M : ax_M) : ax_M := ms M 5 2 (if M 5 9 ≠ -1 ∨ 2 ≤ M 5 8 then M 5 9 else M 5 0)
def rf4 (M : ax_M) : ax_M := ms M 5 1 (if M 5 2 = -1 then M 5 6 else 0)
def tkR (M : ax_M) (b : Int) : ax_M := rf4 (rf3 (rf2 (rk1 M b)))
def clR (M : ax_M) : ax_M := itI (fun k M => sayM M k 0) (ms (ms (ms (ms (ms (ms M 5 0 0) 5 1 0) 5 2 (-1)) 5 6 0) 5 8 0) 5 9 (-1)) 4
theorem ms_5 (M : ax_M) (k : Nat) (i v : Int) (h : k ≠ 5) : ms M k i v 5 = M 5 := ms_ne (Ne.symm h)
theorem say_5 (M : ax_M) (k v : Int) : sayM M k v 5 = M 5 := by
  unfold sayM
  rw [ms_5 _ _ _ _ (by decide), ms_5 _ _ _ _ (by decide), ms_5 _ _ _ _ (by decide)]
/-- WORTH of a set of deeds, by the class's rows -/
def wof (M : ax_M) (deeds : Int) : Int := itI (fun d s => s + if tb deeds d = true then M 13 d else 0) 0 (M 0 6)
